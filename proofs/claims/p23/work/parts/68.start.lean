/-! The law's entry: the sledge side is made, the slope is built. -/
section YI
variable {p : Program} {l : Launch} {e : Env} {R : Room} {s : State} {m : MethodId} {args : Array Value} {below : List Frame} {meth : Method} {c : Code} {H : Heap} {locs : List Loc} {cells slots : Nat} {Q : State → Prop}
variable {cc : ByteArray} {nL : Nat} {Ts : List Cond} {own : String} {pc : Nat} {ls : Array Slot} {rest : List Value} {D : va_G} {cy sa : Nat → Nat} {A : Nat → Prop} {ws : va_W} {a : Nat}
theorem y_ctorI {St : Type} {post : St → Prop} {f : St → va_W} {h : Nat} {e0 : va_E} {y : MethodName} {wsy : List Cond} {rm : Room} {mc ms : Nat} {index maxL : Nat} {bytes : ByteArray} {st0 : List Value} {X : State → Prop} (hXb : ∀ (U : State) (g : JFrame) (mk : MethodId) (a : Array Value), X U → X (U.calling g mk a)) (hX : ∀ U : State, s.WarmedH U.vm → X U) (S : CallFix p m c cc nL s args Ts own) (hE : ZEnv D cy sa A s) (hL : yLS D (ws ++ [(h, e0)]) A s.heap H locs)
    (hM : Met l y wsy rm (fun a U => PL D [(h, e0)] cy sa H.size [.ref h] a U ∧ X U) (QL D [(h, e0)] H.size post f) mc ms (va_A [(h, e0)] H.size)) (cw : CallB R s args own index y bytes maxL none wsy rm mc ms 0 ∧ y.name = "<init>" ∧ (Cond.instanceMethod y).before args s = true) (hz : ls.size = nL) (hst : st0 = .ref h :: rest) (hr : (rest.map fun v => v.category).sum ≤ 8) (hdg : decode cc pc = .ok (.invokespecial index, 3)) (hf : cells + mc ≤ R.cells ∧ slots + ms ≤ R.slots)
    (kk : ∀ (u : St) (H1 : Heap) (locs1 : List Loc), post u → yLS D (ws ++ f u) A s.heap H1 locs1 → W p l e R s m args below meth c H1 locs1 (cells + mc) (slots + ms) Q (F0 m (pc + 3) ls rest)) : W p l e R s m args below meth c H locs cells slots Q (F0 m pc ls st0) := by
  have hfr : ∀ q, va_A [(h, e0)] H.size q → A q := by
    intro q hz
    have hh : (ws ++ [(h, e0)])[ws.length]? = some (h, e0) := by rw [List.getElem?_append_right (Nat.le_refl _), Nat.sub_self]; rfl
    rcases hz with ⟨i, e9, hi⟩ | hz
    · have hi0 : i < 1 := (List.getElem?_eq_some_iff.mp hi).1
      rw [show i = 0 by omega] at hi
      have e1 : h = q := congrArg Prod.fst (Option.some.inj hi)
      rw [← e1]
      exact hL.2.1.2 ws.length (h, e0) hh
    · exact hE.2 _ (Nat.le_trans hL.2.2.1 hz)
  exact va_callv (va_runI (As := []) (rest := rest) S hM cw ⟨fun a U g mk hq => ⟨PL_blind a U g mk hq.1, hXb U g mk a hq.2⟩, fun U hU hW => ⟨yLS.pre hE hL U hU hW, hX U hW⟩⟩ rfl rfl hz hst (lv_room hr) hdg hf) hL.2.2 (fun q _ h => hfr q h) hfr (fun u t H1 locs1 ht hvm hp hB hz1 hk1 hS1 => kk u H1 locs1 hp (hL.join hE.2 (by rw [← ht]; exact hB.1) hB.2 hk1 hS1))
end YI
section ZB9
variable {p : Program} {l : Launch} {e : Env} {R : Room} {s : State} {m : MethodId} {args : Array Value} {below : List Frame} {meth : Method} {c : Code} {H : Heap} {locs : List Loc} {cells slots : Nat} {Q : State → Prop}
variable {cc : ByteArray} {nL : Nat} {Ts : List Cond} {own : String} {pc : Nat} {ls : Array Slot} {rest : List Value} {D : va_G} {ad cy sa : Nat → Nat} {A : Nat → Prop}
theorem z_bld {y : MethodName} {ws : List Cond} {rm : Room} {mc ms N index maxL b L : Nat} {xs : Nat → Int32} {ex0 ex : Nat → va_E} {bytes : ByteArray} {ret : Option FieldType} {st0 : List Value} (S : CallFix p m c cc nL s args Ts own) (hE : ZEnv D cy sa A s) (hX : va_X b L xs s s.heap) (hbl : b < s.heap.size) (hbA : ¬ A b) (hW : WS D 28 ad (cC cy ad al0 ex0) A s.heap H locs) (hM : Met l y ws rm (fun a U => PW D 28 ad cy sa H.size (cC cy ad al0 ex0) [.ref (ad 0), .ref b] a U ∧ XB b L xs U ∧ ¬ Acc 28 ad H.size b) (QBld D 28 ad cy H.size ex) mc ms (Acc 28 ad H.size)) (cw : CallB R s args own index y bytes maxL ret ws rm mc ms N ∧ (Cond.static y).before args s = true) (hn : 2 = N) (hz : ls.size = nL) (hst : st0 = [.ref b, .ref (ad 0)] ++ rest) (hr : (rest.map fun v => v.category).sum ≤ 8) (hdg : decode cc pc = .ok (.invokestatic index, 3)) (hf : cells + mc ≤ R.cells ∧ slots + ms ≤ R.slots)
    (kk : ∀ (N B h : Nat) (al : Nat → Nat → Int32) (ad1 : Nat → Nat) (H1 : Heap) (locs1 : List Loc), InvT al N B h → h ≤ 36 → ad1 0 = ad 0 → WS D (35 + 2 * N + B) ad1 (sW cy ad1 N B al al ex) A s.heap H1 locs1 → W p l e R s m args below meth c H1 locs1 (cells + mc) (slots + ms) Q (F0 m (pc + 3) ls (.ref (ad1 28) :: rest))) : W p l e R s m args below meth c H locs cells slots Q (F0 m pc ls st0) := by
  refine va_callr (va_runS (As := [.ref (ad 0), .ref b]) (rest := rest) S hM cw ⟨fun a U g mk q => ⟨PW_blind a U g mk q.1, q.2.1.call g mk a, q.2.2⟩, fun U hU hWm => ⟨PW_at hE hW U hU hWm, XB.at hX hbl hbA hW.2.2 hU hWm, fun hz => hbA (hW.acc hE.2 b hz)⟩⟩ rfl hn hz hst (lv_room hr) hdg hf) hW.2.2 (fun q _ h => hW.acc hE.2 q h) (hW.acc hE.2) (fun u ra t H1 locs1 ht hvm hp hB hz1 hk1 hS1 => ?_)
  obtain ⟨rfl, hP, hD⟩ := hB
  refine kk u.2.2.1 u.2.2.2.1 u.2.2.2.2 u.2.1 u.1 H1 locs1 hp.1 hp.2.1 hp.2.2 ⟨by rw [← ht]; exact hP, ⟨hD.1, fun k q hq => hW.acc hE.2 _ (hD.2 k q hq)⟩, hS1⟩
end ZB9
theorem z_strs {args : Array Value} {s : State} {c3 : ClassId} (h3 : s.vm.findClass RX3 = some c3) (h : ∀ q ∈ zT, (Cond.stringRef RX3 q.1 q.2).before args s = true) : ∃ sa : Nat → Nat, ∀ (k i : Nat) (t : String), zT[k]? = some (i, t) → vk_R RX3 i t (sa k) s := by
  have h1 : ∀ k : Nat, ∃ a : Nat, ∀ (i : Nat) (t : String), zT[k]? = some (i, t) → vk_R RX3 i t a s := by
    intro k
    cases hk : zT[k]? with
    | none => exact ⟨0, fun i t q => by cases q⟩
    | some q =>
      obtain ⟨i, t⟩ := q
      have h2 := h (i, t) (List.mem_of_getElem? hk)
      obtain ⟨k', cf, i', a, -, -, -, -, -, hev⟩ := Cond.stringRef_spec h3 h2
      refine ⟨a, fun i2 t2 q => ?_⟩
      cases q
      exact vk_R.of h2 hev
  exact ⟨fun k => Classical.choose (h1 k), fun k => Classical.choose_spec (h1 k)⟩
theorem z_zN : ∀ w ∈ zN, w ∈ lw_tbl := by decide +kernel
theorem z_zT : ∀ q ∈ zT, Cond.stringRef RX3 q.1 q.2 ∈ lw_tbl := by decide +kernel
set_option maxHeartbeats 8000000 in
set_option maxRecDepth 100000 in
theorem whole_start {p : Program} {e : Env} {s : State} {m : MethodId} {below : List Frame} {meth : Method} {c : Code} (l : Launch) (hflags : l.flags = flags0) {b L : Nat} {xs : Nat → Int32} (hL : L ≤ 260) (C0 : lw_At p s m meth c b L xs) : W p l e room_1 s m #[Value.ref b] below meth c s.heap [] 0 0 (lw_Z below #[Value.ref b] s) (entryFrame m ([Value.ref b] : List Value).toArray 21) := by
  obtain ⟨hx, hb, hr, hml, hown, hts0, hX, hbl, hlocks, hgv⟩ := id C0
  have hfl : l.stackTraces = false := by
    unfold Launch.stackTraces
    rw [hflags]
    decide +kernel
  have hts : ∀ w ∈ wsL_law, w.before #[Value.ref b] s = true := fun w h => hts0 w (wsL_law_in w h)
  have hgf := flat_of_before _ hgv
  have hi0 : (Cond.instantiable RX0 3).before #[Value.ref b] s = true := hts0 _ (by decide +kernel)
  obtain ⟨c0, iS0, k0⟩ := u_known (C := RX0) (T := TX0) (N := 3) (n := 3) hts0 inX0 hi0
  have hi1 : (Cond.instantiable RX1 2).before #[Value.ref b] s = true := hts0 _ (by decide +kernel)
  obtain ⟨c1, iS1, k1⟩ := u_known (C := RX1) (T := TX1) (N := 2) (n := 2) hts0 inX1 hi1
  have hi2 : (Cond.instantiable RX2 5).before #[Value.ref b] s = true := hts0 _ (by decide +kernel)
  obtain ⟨c2, iS2, k2⟩ := u_known (C := RX2) (T := TX2) (N := 5) (n := 5) hts0 inX2 hi2
  have hi3 : (Cond.instantiable RX3 12).before #[Value.ref b] s = true := hts0 _ (by decide +kernel)
  obtain ⟨c3, iS3, k3⟩ := u_known (C := RX3) (T := TX3) (N := 12) (n := 12) hts0 inX3 hi3
  have hi4 : (Cond.instantiable RX4 9).before #[Value.ref b] s = true := hts0 _ (by decide +kernel)
  obtain ⟨c4, iS4, k4⟩ := u_known (C := RX4) (T := TX4) (N := 9) (n := 9) hts0 inX4 hi4
  have hi5 : (Cond.instantiable RX5 4).before #[Value.ref b] s = true := hts0 _ (by decide +kernel)
  obtain ⟨c5, iS5, k5⟩ := u_known (C := RX5) (T := TX5) (N := 4) (n := 4) hts0 inX5 hi5
  have hw2 : (Cond.arrayOver (.object RX2)).before #[Value.ref b] s = true := hts0 _ (by decide +kernel)
  have hw0 : (Cond.arrayOver (.object RX0)).before #[Value.ref b] s = true := hts0 _ (by decide +kernel)
  have hw5 : (Cond.arrayOver (.object RX5)).before #[Value.ref b] s = true := hts0 _ (by decide +kernel)
  have hwA : (Cond.arrayOver (.array .int)).before #[Value.ref b] s = true := hts0 _ (by decide +kernel)
  have har : (Cond.arrayClass .int).before #[Value.ref b] s = true := hts0 _ (by decide +kernel)
  obtain ⟨a0, kk0, cc0, f0, g0, h0⟩ := Cond.arrayClass_spec har
  obtain ⟨cc1, a1, kk1, m1, n1, g1, h1, f1⟩ := Cond.arrayOver_spec hw2
  obtain ⟨cc2, a2, kk2, m2, n2, g2, h2, f2⟩ := Cond.arrayOver_spec hw0
  obtain ⟨cc3, a3, kk3, m3, n3, g3, h3, f3⟩ := arrayOverA_spec hwA
  obtain ⟨cc4, a4, kk4, m4, n4, g4, h4, f4⟩ := Cond.arrayOver_spec hw5
  obtain ⟨sa, hsa⟩ := z_strs k3.2.1 (fun q hq => hts0 _ (z_zT q hq))
  obtain ⟨cy, y0, y1, y2, y3, y4⟩ : ∃ cy : Nat → Nat, cy 0 = a0 ∧ cy 1 = a1 ∧ cy 2 = a2 ∧ cy 3 = a3 ∧ cy 4 = a4 := ⟨fun k => if k = 0 then a0 else if k = 1 then a1 else if k = 2 then a2 else if k = 3 then a3 else a4, rfl, rfl, rfl, rfl, rfl⟩
  subst y0 y1 y2 y3 y4
  obtain ⟨D, hD5⟩ : ∃ D : va_G, ∀ (k : Nat) (q : vw_C), vwCl[k]? = some q → u_Kn s q.1 q.2.1 q.2.2 (D.1 k) (D.2 k) := by
    refine ⟨(fun k => if k = 0 then c0 else if k = 1 then c1 else if k = 2 then c2 else if k = 3 then c3 else if k = 4 then c4 else c5, fun k => if k = 0 then iS0 else if k = 1 then iS1 else if k = 2 then iS2 else if k = 3 then iS3 else if k = 4 then iS4 else iS5), ?_⟩
    intro k q hq
    match k, hq with
    | 0, hq => cases hq; exact k0
    | 1, hq => cases hq; exact k1
    | 2, hq => cases hq; exact k2
    | 3, hq => cases hq; exact k3
    | 4, hq => cases hq; exact k4
    | 5, hq => cases hq; exact k5
    | k + 6, hq => simp [vwCl] at hq
  have hK : va_K D vwCl (tyA cy) s := by
    refine ⟨hD5, fun k q hk => ?_⟩
    match k, hk with
    | 0, hk => cases hk; exact ⟨fun n z => ⟨(fun k h => by cases h), kk0, g0, cc0, h0⟩, f0⟩
    | 1, hk => cases hk; exact ⟨fun n z => ⟨(fun k h => by cases h), kk1, g1, cc1, h1⟩, kk1, cc1, g1, h1, m1, f1⟩
    | 2, hk => cases hk; exact ⟨fun n z => ⟨(fun k h => by cases h), kk2, g2, cc2, h2⟩, kk2, cc2, g2, h2, m2, f2⟩
    | 3, hk => cases hk; exact ⟨fun n z => ⟨(fun k h => by cases h), kk3, g3, cc3, h3⟩, f3⟩
    | 4, hk => cases hk; exact ⟨fun n z => ⟨(fun k h => by cases h), kk4, g4, cc4, h4⟩, kk4, cc4, g4, h4, m4, f4⟩
    | k + 5, hk => simp [tyA] at hk
  have hNW : NW s := fun w hw => va_Nw.of (zNk_tab (List.all_eq_true.mp zN_k w hw)) (hts0 w (z_zN w hw))
  have hE : ZEnv D cy sa (fun q => s.heap.size ≤ q) s := ⟨⟨hK, hNW, ⟨hsa, over_moved (Vm.Alike.refl s.vm) hwA, va_AO.of hw5⟩, vx_Zqof (args := #[Value.ref b]) (hts0 _ (by decide +kernel)) (hts0 _ (by decide +kernel)) (hgf _ (by decide +kernel)) (fun a h1 h2 => absurd h1 (Nat.not_lt.mpr h2)), vx_Zqof (args := #[Value.ref b]) (hts0 _ (by decide +kernel)) (hts0 _ (by decide +kernel)) (hgf _ (by decide +kernel)) (fun a h1 h2 => absurd h1 (Nat.not_lt.mpr h2))⟩, fun q h => h⟩
  have S : CallFix p m c cL_law 21 s #[Value.ref b] wsL_law RL := ⟨hx, hb, hml, hown, hts⟩
  have hl := lv_entry ([.ref b]) (n := 21) (Nat.le_of_ble_eq_true rfl)
  rw [lg_entry_eq]
  generalize (lg_sl ([.ref b]) ++ List.replicate (21 - (lg_sl ([.ref b])).length) Slot.unset).toArray = ls at hl ⊢
  have hl : lv_has ls 21 [(0, .ref b)] := hl
  have hW0 : yLS D [] (fun q => s.heap.size ≤ q) s.heap s.heap [] := ⟨fun k q h => by simp at h, ⟨fun i j p q h => by simp at h, fun k q h => by simp at h⟩, va_S.rf⟩
  have hcl : (Cond.classLink RL 33 RX3).before #[Value.ref b] s = true := hts0 _ (by decide +kernel)
  have hini : (Cond.initialized RX3).before #[Value.ref b] s = true := hts0 _ (by decide +kernel)
  refine y_new (ci := 3) (fs := [.null, .null, .null, .null, .int 0, .null, .int 0, .null, .int 0, .int 0, .null, .null]) (C := RX3) (T := TX3) (N := 12) S hE hW0 inlX3 tyX3 tyX3_ok hcl hi3 hini rfl (fun j hj => by rcases (show j = 0 ∨ j = 1 ∨ j = 2 ∨ j = 3 ∨ j = 4 ∨ j = 5 ∨ j = 6 ∨ j = 7 ∨ j = 8 ∨ j = 9 ∨ j = 10 ∨ j = 11 by omega) with rfl | rfl | rfl | rfl | rfl | rfl | rfl | rfl | rfl | rfl | rfl | rfl <;> rfl) (Nat.le_of_ble_eq_true rfl) (Nat.le_of_ble_eq_true rfl) dL_law_0 (fun q0 H hL1 => ?_)
  refine lv_dup hx hb dL_law_3 rfl ?_
  refine y_ctorI (rest := [.ref q0]) (ws := []) (X := fun U => va_AO RX2 U ∧ va_AO RX0 U) (fun U g mk a h => ⟨va_AO.moved (u := U) (U := U.calling g mk a) (Vm.Alike.refl U.vm) h.1, va_AO.moved (u := U) (U := U.calling g mk a) (Vm.Alike.refl U.vm) h.2⟩) (fun U hU => ⟨va_AO.moved hU.alike (va_AO.of hw2), va_AO.moved hU.alike (va_AO.of hw0)⟩) S hE hL1 (cX3_init_ok l D cy sa q0 H.size) (cwI 0 hts gL_law_X3_init rfl rfl rfl hini (hts0 _ (by decide +kernel)) (hts0 _ (by decide +kernel)) rfl (by decide +kernel) ⟨Nat.le_of_ble_eq_true rfl, Nat.le_of_ble_eq_true rfl⟩) hl.1 rfl (Nat.le_of_ble_eq_true rfl) dL_law_4 ⟨Nat.le_of_ble_eq_true rfl, Nat.le_of_ble_eq_true rfl⟩ (fun u H locs hu hL2 => ?_)
  have hW : WS D 28 u (cC cy u al0 (fun _ => .inr (0, []))) (fun q => s.heap.size ≤ q) s.heap H locs := hL2
  subst hu
  refine lv_astore_n (lv' := [(1, .ref (u 0)), (0, .ref b)]) hx hb dL_law_7 rfl hl (by decide) rfl (fun ls hl => ?_)
  refine lv_aload_n hx hb dL_law_8 rfl (lv_at hl 0 rfl) ?_
  refine lv_aload_n hx hb dL_law_9 rfl (lv_at hl 1 rfl) ?_
  refine z_bld (ex := fun _ => .inr (0, [])) S hE hX hbl (Nat.not_le.mpr hbl) hW (cL_build_ok l D u cy sa H.size b L xs hL _ _ hfl) (va_cwS 2 hts gL_law_L_build rfl rfl rfl (by decide +kernel) ⟨Nat.le_of_ble_eq_true rfl, Nat.le_of_ble_eq_true rfl⟩) rfl hl.1 rfl (Nat.le_of_ble_eq_true rfl) dL_law_10 ⟨Nat.le_of_ble_eq_true rfl, Nat.le_of_ble_eq_true rfl⟩ (fun N B h al ad H locs hI hh hu0 hW => ?_)
  rw [← hu0] at hl
  refine lv_astore_n (lv' := [(2, .ref (ad 28)), (1, .ref (ad 0)), (0, .ref b)]) hx hb dL_law_13 rfl hl (by decide) rfl (fun ls hl => ?_)
  refine lv_aload_n hx hb dL_law_14 rfl (lv_at hl 0 rfl) ?_
  refine lv_ifnonnull (tgt := 20) hx hb dL_law_15 (by decide) ?_
  refine lv_iconst (v := 0) hx hb dL_law_20 (by decide) ?_
  refine lv_istore_n (lv' := [(3, .int 0), (2, .ref (ad 28)), (1, .ref (ad 0)), (0, .ref b)]) hx hb dL_law_21 rfl hl (by decide) rfl (fun ls hl => ?_)
  refine W.widen (k := 700 + 176 * 0) (n := 5000 + 704 * 0) (Nat.le_of_ble_eq_true rfl) (Nat.le_of_ble_eq_true rfl) ?_
  exact law_loop l hfl hL S hE hX hbl hr hlocks 36 0 N B h al ad H locs ls rfl hI (by omega) hW hl
