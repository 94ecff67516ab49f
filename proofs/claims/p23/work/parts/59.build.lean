/-! The script's cells, and the slope that they choose. -/
def XB (b L : Nat) (xs : Nat → Int32) (U : State) : Prop := va_X b L xs U U.heap ∧ b < U.heap.size
theorem XB.call {b L : Nat} {xs : Nat → Int32} {U : State} (h : XB b L xs U) (g : JFrame) (mk : MethodId) (a : Array Value) : XB b L xs (U.calling g mk a) := ⟨va_X.moved (u := U) (U := U.calling g mk a) (Vm.Alike.refl U.vm) h.1, h.2⟩
theorem XB.at {b L : Nat} {xs : Nat → Int32} {A : Nat → Prop} {s U : State} {H : Heap} {locs : List Loc} (hX : va_X b L xs s s.heap) (hbl : b < s.heap.size) (hbA : ¬ A b) (hS : va_S A s.heap H locs) (hU : U.heap = H) (hW : s.WarmedH U.vm) : XB b L xs U :=
  ⟨by rw [hU]; exact va_X.moved hW.alike (hX.kept (hS.2.1 b hbl hbA)), by rw [hU]; exact Nat.lt_of_lt_of_le hbl hS.1⟩
def cvl (L : Nat) (xs : Nat → Int32) (k : Nat) : Int32 := if nI L ≤ nI k then 790386105 * (nI k + 3) else xs k
set_option maxHeartbeats 4000000 in
set_option maxRecDepth 100000 in
theorem cL_cell_ok (l : Launch) (b L : Nat) (xs : Nat → Int32) (hL : L ≤ 260) (k : Nat) (hk : k < 1000) : Met l yL_cell wsL_cell ({ frames := 0, cells := 0, slots := 0, locals := 0 }) (va_Pc [.ref b, .int (nI k)] (XB b L xs)) (QP (cvl L xs k)) 0 0 (fun _ => False) := by
  refine Met.ofW (cc := cL_cell) (maxL := 2) (ret := (some .int)) (by decide) rfl ?_
  intro p e s m args below meth c s₁ B hml hv
  obtain ⟨rfl, hX, hbl⟩ := hv
  have hts := atoms_spec (ws := wsL_cell) B.pre
  have hown : s.vm.findClass RL = some m.cls := findClass_of_methodNamed B.named
  rw [lg_entry_eq]
  have hl := lv_entry ([.ref b, .int (nI k)]) (n := 2) (Nat.le_of_ble_eq_true rfl)
  generalize (lg_sl ([.ref b, .int (nI k)]) ++ List.replicate (2 - (lg_sl ([.ref b, .int (nI k)])).length) Slot.unset).toArray = ls at hl ⊢
  have hl : lv_has ls 2 [(0, .ref b), (1, .int (nI k))] := hl
  have hx := B.exec
  have hb : c.code = cL_cell := B.bytes
  have S : CallFix p m c cL_cell 2 s #[.ref b, .int (nI k)] wsL_cell RL := ⟨hx, hb, hml, hown, hts⟩
  have hr := B.returns
  have hlk := B.notSynchronized
  have hS : va_S (fun _ => False) s.heap s.heap [] := va_S.rf
  have kc := hts (.constant RL 8 790386105) (by decide +kernel)
  refine lv_iload_n hx hb dL_cell_0 rfl (lv_at hl 1 rfl) ?_
  refine lv_aload_n hx hb dL_cell_1 rfl (lv_at hl 0 rfl) ?_
  refine va_slen hx hb hX hbl (fun h => h) hS dL_cell_2 ?_
  refine lv_icmp_ge (tgt := 12) hx hb dL_cell_3 (by decide) (fun c3 => ?_) (fun c3 => ?_)
  · refine lv_ldc hx hb hown kc dL_cell_12 ?_
    refine lv_iload_n hx hb dL_cell_14 rfl (lv_at hl 1 rfl) ?_
    refine lv_iconst (v := 3) hx hb dL_cell_15 (by decide) ?_
    refine lv_iadd hx hb dL_cell_16 ?_
    refine lv_imul hx hb dL_cell_17 ?_
    exact ze_p S hr hlk (if_pos c3).symm dL_cell_18
  · refine lv_aload_n hx hb dL_cell_6 rfl (lv_at hl 0 rfl) ?_
    refine lv_iload_n hx hb dL_cell_7 rfl (lv_at hl 1 rfl) ?_
    have hkL : k < L := Nat.lt_of_not_le (fun h => c3 (nI_le h (by omega)))
    refine va_sld hx hb hX hbl (fun h => h) hS (vp_in_nI hkL (by omega)) dL_cell_8 ?_
    refine z_top2 (y := xs k) (by rw [nI_clamp (show k < 2 ^ 31 by omega)]) ?_
    refine lv_goto (tgt := 18) hx hb dL_cell_9 (by decide) ?_
    exact ze_p S hr hlk (if_neg c3).symm dL_cell_18
section ZX
variable {p : Program} {l : Launch} {e : Env} {R : Room} {s : State} {m : MethodId} {args : Array Value} {below : List Frame} {meth : Method} {c : Code} {H : Heap} {locs : List Loc} {cells slots : Nat} {Q : State → Prop}
variable {cc : ByteArray} {nL : Nat} {Ts : List Cond} {own : String} {pc : Nat} {ls : Array Slot} {rest st0 : List Value} {D : va_G} {n : Nat} {ad cy sa : Nat → Nat} {ce : Nat → va_E} {A : Nat → Prop}
variable {y : MethodName} {bytes : ByteArray} {maxL mc ms N index : Nat} {ret : Option FieldType} {ws : List Cond} {rm : Room} {As : List Value} {b L : Nat} {xs : Nat → Int32}
theorem z_pX {v : Int32} (S : CallFix p m c cc nL s args Ts own) (hW : WS D n ad ce A s.heap H locs) (hX : va_X b L xs s s.heap) (hbl : b < s.heap.size) (hbA : ¬ A b) (hM : Met l y ws rm (va_Pc As (XB b L xs)) (QP v) mc ms (fun _ => False)) (cw : CallB R s args own index y bytes maxL ret ws rm mc ms N ∧ (Cond.static y).before args s = true) (hn : As.length = N) (hz : ls.size = nL) (hst : st0 = As.reverse ++ rest) (hr : (rest.map fun v => v.category).sum ≤ 8) (hdg : decode cc pc = .ok (.invokestatic index, 3)) (hf : cells + mc ≤ R.cells ∧ slots + ms ≤ R.slots)
    (kk : ∀ (H1 : Heap) (locs1 : List Loc), WS D n ad ce A s.heap H1 locs1 → W p l e R s m args below meth c H1 locs1 (cells + mc) (slots + ms) Q (F0 m (pc + 3) ls (.int v :: rest))) : W p l e R s m args below meth c H locs cells slots Q (F0 m pc ls st0) := by
  refine va_calli (va_runS (As := As) (rest := rest) S hM cw ⟨fun a U g mk q => ⟨q.1, q.2.call g mk a⟩, fun U hU hWm => ⟨rfl, XB.at hX hbl hbA hW.2.2 hU hWm⟩⟩ rfl hn hz hst (lv_room hr) hdg hf) hW.2.2 (fun q _ h => h.elim) (fun q h => h.elim) (fun r u t H1 locs1 ht hvm hp hB hz1 hk1 hS1 => ?_)
  subst hp
  exact kk H1 locs1 (hW.kept (fun q hq => hk1 q hq (fun h => h)) hS1)
end ZX
/-- the slope at its beginning -/
abbrev F7 (cy u : Nat → Nat) : va_W := [(u 28, .inr (4, [.ref (u 29), .ref (u 30), .ref (u 31), .ref (u 33), .ref (u 34), .ref (u 32), .int 0, .int 0, .int 0])), (u 29, .inl (cy 0, 5, .inl st0)), (u 30, .inl (cy 0, 5, .inl sw0)), (u 31, .inl (cy 0, 8, .inl (fun _ => 0))), (u 33, .inl (cy 4, 0, .inr (.inr (.inr (.inr (fun _ => none)))))), (u 34, .inl (cy 3, 0, .inr (.inr (.inr (.inr (fun _ => none)))))), (u 32, .inl (cy 0, 3, .inl (fun _ => 0)))]
def adS (ad u : Nat → Nat) : Nat → Nat := fun k => if k < 28 then ad k else u k
theorem start_S {D : va_G} {A : Nat → Prop} {H0 H : Heap} {locs : List Loc} {cy ad u : Nat → Nat} {ex0 ex : Nat → va_E} (hL : yLS D (wL 28 ad (cC cy ad al0 ex0) ++ F7 cy u) A H0 H locs) : WS D 35 (adS ad u) (sW cy (adS ad u) 0 0 al0 al0 ex) A H0 H locs := by
  have k1 : ∀ k, k < 28 → (wL 28 ad (cC cy ad al0 ex0) ++ F7 cy u)[k]? = some (ad k, cC cy ad al0 ex0 k) := fun k hk => by
    rw [List.getElem?_append_left (by rw [wL_len]; exact hk), wL_get hk]
  have k2 : ∀ (j : Nat) (e : Nat × va_E), (F7 cy u)[j]? = some e → (wL 28 ad (cC cy ad al0 ex0) ++ F7 cy u)[28 + j]? = some e := fun j e h => by
    rw [List.getElem?_append_right (by rw [wL_len]; omega), wL_len, Nat.add_sub_cancel_left]
    exact h
  have elo : ∀ k, k < 28 → adS ad u k = ad k := fun k hk => if_pos hk
  have ehi : ∀ k, 28 ≤ k → adS ad u k = u k := fun k hk => if_neg (by omega)
  -- the place of each in the list, and that it holds what it should
  have key : ∀ k, k < 35 → ∃ (pl : Nat) (e : va_E), (wL 28 ad (cC cy ad al0 ex0) ++ F7 cy u)[pl]? = some (adS ad u k, e) ∧ vpe e (sW cy (adS ad u) 0 0 al0 al0 ex k) ∧ (pl = if k = 32 then 34 else if k = 33 then 32 else if k = 34 then 33 else k) := by
    intro k hk
    by_cases h : k < 28
    · exact ⟨k, _, by rw [k1 k h, elo k h], cC_vpe h (fun j hj => elo j hj), by rw [if_neg (by omega), if_neg (by omega), if_neg (by omega)]⟩
    · rcases (show k = 28 ∨ k = 29 ∨ k = 30 ∨ k = 31 ∨ k = 32 ∨ k = 33 ∨ k = 34 by omega) with rfl | rfl | rfl | rfl | rfl | rfl | rfl
      · refine ⟨28, _, (k2 0 _ rfl).trans (by rw [ehi 28 (by omega)]), vpe_of ?_, rfl⟩
        rw [sW_28, ehi 29 (by omega), ehi 30 (by omega), ehi 31 (by omega), ehi 32 (by omega), ehi 33 (by omega), ehi 34 (by omega)]
        rfl
      · exact ⟨29, _, (k2 1 _ rfl).trans (by rw [ehi 29 (by omega)]), vpe_of (by rw [sW_29]; rfl), rfl⟩
      · exact ⟨30, _, (k2 2 _ rfl).trans (by rw [ehi 30 (by omega)]), vpe_of (by rw [sW_30]; rfl), rfl⟩
      · exact ⟨31, _, (k2 3 _ rfl).trans (by rw [ehi 31 (by omega)]), vpe_of (by rw [sW_31]; rfl), rfl⟩
      · exact ⟨34, _, (k2 6 _ rfl).trans (by rw [ehi 32 (by omega)]), vpe_of (by rw [sW_32]; rfl), rfl⟩
      · exact ⟨32, _, (k2 4 _ rfl).trans (by rw [ehi 33 (by omega)]), by rw [sW_33]; exact vpe_q (fun i hi => absurd hi (Nat.not_lt_zero i)), rfl⟩
      · exact ⟨33, _, (k2 5 _ rfl).trans (by rw [ehi 34 (by omega)]), by rw [sW_34]; exact vpe_q (fun i hi => absurd hi (Nat.not_lt_zero i)), rfl⟩
  refine ⟨fun k q hq => ?_, ⟨fun i j p q hi hj e => ?_, fun k q hq => ?_⟩, hL.2.2⟩
  · obtain ⟨hk, rfl⟩ := wL_inv hq
    obtain ⟨pl, e, h1, h2, -⟩ := key k hk
    exact h2 D H _ (hL.1 pl _ h1)
  · obtain ⟨hi2, rfl⟩ := wL_inv hi
    obtain ⟨hj2, rfl⟩ := wL_inv hj
    obtain ⟨p1, e1, h1, -, q1⟩ := key i hi2
    obtain ⟨p2, e2, h2, -, q2⟩ := key j hj2
    have e9 := hL.2.1.1 p1 p2 _ _ h1 h2 e
    rw [q1, q2] at e9
    split at e9 <;> (try split at e9) <;> (try split at e9) <;> (try split at e9) <;> (try split at e9) <;> (try split at e9) <;> omega
  · obtain ⟨hk, rfl⟩ := wL_inv hq
    obtain ⟨p1, e1, h1, -, -⟩ := key k hk
    exact hL.2.1.2 p1 (adS ad u k, e1) h1
theorem InvT.begin : InvT al0 0 0 0 := by
  refine ⟨Inv.begin, fun b hb => ?_, fun i hi h4 => ?_⟩
  · have e : al0 (24 + b) = fun _ => 0 := by
      unfold al0
      rw [if_neg (by omega), if_neg (by omega), if_neg (by omega)]
    exact ⟨0, 0, 0, by rw [e]; rfl, by rw [e]; rfl, by rw [e]; rfl, fun q => by omega, fun _ => ⟨rfl, rfl⟩⟩
  · have e : al0 (10 + i) = fun j => if j = 3 then 20 else 0 := by
      unfold al0
      rw [if_neg (by omega), if_neg (by omega), if_pos (by omega)]
    rw [e]
    rfl
theorem k0_pass1 {al : Nat → Nat → Int32} : k_pass al 1 = 0 := by
  unfold k_pass
  rw [if_neg (fun z => z (zin_nI (a := 1) (lo := 1) (hi := 60) (by omega) (by omega) (by decide)))]
theorem u_pass1 {al : Nat → Nat → Int32} : u_pass al 1 = hourS al := by
  unfold u_pass
  rw [show ix (1 : Int32) = 1 from ix_nI (k := 1) (by decide)]
  rfl
theorem v_pass1 {al : Nat → Nat → Int32} : v_pass al 1 = ash (hourS al) - ash al := by
  unfold v_pass
  rw [u_pass1]
abbrev Stb : Type := (Nat → Nat) × (Nat → Nat → Int32) × Nat × Nat × Nat
abbrev QBld (D : va_G) (n : Nat) (ad cy : Nat → Nat) (sz : Nat) (ex : Nat → va_E) : Array Value → State → Outcome → State → Prop := va_Qr (fun u : Stb => InvT u.2.1 u.2.2.1 u.2.2.2.1 u.2.2.2.2 ∧ u.2.2.2.2 ≤ 36 ∧ u.1 0 = ad 0) (fun u a t => a = u.1 28 ∧ va_P D vwCl (wL (35 + 2 * u.2.2.1 + u.2.2.2.1) u.1 (sW cy u.1 u.2.2.1 u.2.2.2.1 u.2.1 u.2.1 ex)) t.heap ∧ va_D (Acc n ad sz) (wL (35 + 2 * u.2.2.1 + u.2.2.2.1) u.1 (sW cy u.1 u.2.2.1 u.2.2.2.1 u.2.1 u.2.1 ex))) (Acc n ad sz)

set_option maxHeartbeats 8000000 in
set_option maxRecDepth 100000 in
theorem cL_build_ok (l : Launch) (D : va_G) (ad cy sa : Nat → Nat) (sz b L : Nat) (xs : Nat → Int32) (hL : L ≤ 260) (ex0 ex : Nat → va_E) (hfl : l.stackTraces = false) : Met l yL_build wsL_build ({ frames := 8, cells := 619, slots := 4422, locals := 180 }) (fun a U => PW D 28 ad cy sa sz (cC cy ad al0 ex0) [.ref (ad 0), .ref b] a U ∧ XB b L xs U ∧ ¬ Acc 28 ad sz b) (QBld D 28 ad cy sz ex) 619 4422 (Acc 28 ad sz) := by
  refine Met.ofW (cc := cL_build) (maxL := 4) (ret := (some (.object "PumiceSledgeLaw$Sim"))) (by decide) rfl ?_
  intro p e s m args below meth c s₁ B hml hv
  obtain ⟨⟨rfl, hsz, hP, hD, hE⟩, ⟨hX, hbl⟩, hbA⟩ := hv
  have hts := atoms_spec (ws := wsL_build) B.pre
  have hown : s.vm.findClass RL = some m.cls := findClass_of_methodNamed B.named
  subst hsz
  rw [lg_entry_eq]
  have hD2 : va_D (Acc 28 ad s.heap.size) (wL 28 ad (cC cy ad al0 ex0)) := ⟨hD.1, fun k q hk => by
    obtain ⟨h1, rfl⟩ := wL_inv hk
    exact Or.inl ⟨k, h1, rfl⟩⟩
  have hl := lv_entry ([.ref (ad 0), .ref b]) (n := 4) (Nat.le_of_ble_eq_true rfl)
  generalize (lg_sl ([.ref (ad 0), .ref b]) ++ List.replicate (4 - (lg_sl ([.ref (ad 0), .ref b])).length) Slot.unset).toArray = ls at hl ⊢
  have hl : lv_has ls 4 [(0, .ref (ad 0)), (1, .ref b)] := hl
  have hx := B.exec
  have hb : c.code = cL_build := B.bytes
  have hr := B.returns
  have hlk := B.notSynchronized
  have hW : yLS D (wL 28 ad (cC cy ad al0 ex0)) (Acc 28 ad s.heap.size) s.heap s.heap [] := ⟨hP, hD2, va_S.rf⟩
  generalize hargs : ([.ref (ad 0), .ref b] : List Value).toArray = args at hts ⊢
  have S : CallFix p m c cL_build 4 s args wsL_build RL := ⟨hx, hb, hml, hown, hts⟩
  clear hargs
  have ins_X4 := hts (.instantiable RX4 9) (by decide +kernel)
  have in_X4 := hts (.initialized RX4) (by decide +kernel)
  have im_X4i := hts (.instanceMethod yX4_init) (by decide +kernel)
  have cl4 := hts (.classLink RL 10 RX4) (by decide +kernel)
  have hi4 : ∀ w ∈ wsX40, w ∈ wsL_build := by decide +kernel
  refine y_new (ci := 4) (fs := [.null, .null, .null, .null, .null, .null, .int 0, .int 0, .int 0]) (C := RX4) (T := TX4) (N := 9) S hE hW hi4 tyX4 tyX4_ok cl4 ins_X4 in_X4 rfl (fun j hj => by rcases (show j = 0 ∨ j = 1 ∨ j = 2 ∨ j = 3 ∨ j = 4 ∨ j = 5 ∨ j = 6 ∨ j = 7 ∨ j = 8 by omega) with rfl | rfl | rfl | rfl | rfl | rfl | rfl | rfl | rfl <;> rfl) (Nat.le_of_ble_eq_true rfl) (Nat.le_of_ble_eq_true rfl) dL_build_0 (fun q1 H hL1 => ?_)
  refine lv_dup hx hb dL_build_3 rfl ?_
  refine y_ctorN (rest := [.ref q1]) (ws := wL 28 ad (cC cy ad al0 ex0)) (h := q1) (e0 := .inr (4, [.null, .null, .null, .null, .null, .null, .int 0, .int 0, .int 0])) S hE hL1 (cX4_init_ok l D cy sa q1 H.size) ⟨va_cnB 0 hts gL_build_X4_init_n98 rfl rfl rfl (hE.1.2.1.at 26 rfl) in_X4 (by decide +kernel) ⟨Nat.le_of_ble_eq_true rfl, Nat.le_of_ble_eq_true rfl⟩, rfl, im_X4i⟩ hl.1 rfl (Nat.le_of_ble_eq_true rfl) dL_build_4 ⟨Nat.le_of_ble_eq_true rfl, Nat.le_of_ble_eq_true rfl⟩ (fun u H locs hu hL2 => ?_)
  subst hu
  have hW := start_S (ex := ex) hL2
  obtain ⟨ad1, had1⟩ : ∃ f, f = adS ad u := ⟨_, rfl⟩
  rw [← had1] at hW
  have e0 : ad1 0 = ad 0 := by rw [had1]; rfl
  have e28 : u 28 = ad1 28 := by rw [had1]; rfl
  rw [e28]
  replace hl : lv_has ls 4 [(0, .ref (ad1 0)), (1, .ref b)] := by rw [e0]; exact hl
  refine W.widen (k := 7 + 17 * 0) (n := 30 + 122 * 0) (Nat.le_of_ble_eq_true rfl) (Nat.le_of_ble_eq_true rfl) ?_
  refine lv_astore_n (lv' := [(2, .ref (ad1 28)), (0, .ref (ad1 0)), (1, .ref b)]) hx hb dL_build_7 rfl hl (by decide) rfl (fun ls hl => ?_)
  refine lv_iconst (v := 0) hx hb dL_build_8 (by decide) ?_
  refine lv_istore_n (lv' := [(3, .int 0), (2, .ref (ad1 28)), (0, .ref (ad1 0)), (1, .ref b)]) hx hb dL_build_9 rfl hl (by decide) rfl (fun ls hl => ?_)
  have L10 : ∀ (kq k : Nat) (N B h : Nat) (al : Nat → Nat → Int32) (ad1 : Nat → Nat) (H : Heap) (locs : List Loc) (ls : Array Slot), k + kq = 36 → InvT al N B h → h ≤ k → ad1 0 = ad 0 → WS D (35 + 2 * N + B) ad1 (sW cy ad1 N B al al ex) (Acc 28 ad s.heap.size) s.heap H locs → lv_has ls 4 [(0, .ref (ad1 0)), (1, .ref b), (2, .ref (ad1 28)), (3, .int (nI k))] → W p l e ({ frames := 8, cells := 619, slots := 4422, locals := 180 }) s m args below meth c H locs (7 + 17 * k) (30 + 122 * k) (MQ below (QBld D 28 ad cy s.heap.size ex) args s 619 4422 (Acc 28 ad s.heap.size)) (F0 m 10 ls []) := by
    intro kq
    induction kq with
    | zero =>
      intro k N B h al ad1 H locs ls hjk hI hhk had0 hW hl
      have hjN : k = 36 := by omega
      try rw [hjN] at hW
      try rw [hjN] at hl
      have hN6 := hI.1.1.2.1
      have hB4 := hI.1.1.2.2.2.1
      refine lv_iload_n hx hb dL_build_10 rfl (lv_at hl 3 rfl) ?_
      refine lv_bipush (v := 36) hx hb dL_build_11 (by decide) ?_
      refine lv_icmp_ge (tgt := 97) hx hb dL_build_13 (by decide) (fun _ => ?_) (fun h => absurd (by decide) h)
      refine lv_aload_n hx hb dL_build_97 rfl (lv_at hl 2 rfl) ?_
      have hBb : QBld D 28 ad cy s.heap.size ex args s (.returned (some (.ref (ad1 28)))) = QBld D 28 ad cy s.heap.size ex args s (.returned (some (.ref (ad1 28)))) := rfl
      refine W.widen (k := 619) (n := 4422) (by omega) (by omega) ?_
      exact W.aret (rt := .object RX4) hx hb hr (Or.inl ⟨_, rfl⟩) (Or.inr ⟨_, rfl⟩) (fun t ht _ => ⟨⟨(ad1, al, N, B, h), ad1 28, rfl, ⟨hI, by show h ≤ 36; omega, had0⟩, rfl, by rw [ht]; exact hW.1, hW.2.1⟩, hW.2.2.F ht⟩) hW.2.2.2.2 dL_build_98 hlk
    | succ kq ih =>
      intro k N B h al ad1 H locs ls hjk hI hhk had0 hW hl
      have hj : k < 36 := by omega
      have hN6 := hI.1.1.2.1
      have hB4 := hI.1.1.2.2.2.1
      refine lv_iload_n hx hb dL_build_10 rfl (lv_at hl 3 rfl) ?_
      refine lv_bipush (v := 36) hx hb dL_build_11 (by decide) ?_
      refine lv_icmp_ge (tgt := 97) hx hb dL_build_13 (by decide) (fun h => absurd h (nI_ge (b := 36) hj (by decide))) (fun _ => ?_)
      refine lv_aload_n hx hb dL_build_16 rfl (lv_at hl 0 rfl) ?_
      refine lv_aload_n hx hb dL_build_17 rfl (lv_at hl 2 rfl) ?_
      refine lv_aload_n hx hb dL_build_18 rfl (lv_at hl 1 rfl) ?_
      refine lv_iload_n hx hb dL_build_19 rfl (lv_at hl 3 rfl) ?_
      refine lv_bipush (v := 16) hx hb dL_build_20 (by decide) ?_
      refine lv_irem hx hb dL_build_22 (by decide) ?_
      refine z_top2 (y := nI (k % 16)) (pk_rem (by omega) (by decide) (by decide)) ?_
      refine z_pX (As := [.ref b, .int (nI (k % 16))]) (rest := [.ref (ad1 28), .ref (ad1 0)]) S hW hX hbl hbA (cL_cell_ok l b L xs hL (k % 16) (by omega)) (va_cwS 2 hts gL_build_L_cell rfl rfl rfl (by decide +kernel) ⟨Nat.le_of_ble_eq_true rfl, Nat.le_of_ble_eq_true rfl⟩) rfl hl.1 rfl (Nat.le_of_ble_eq_true rfl) dL_build_23 ⟨(by dsimp only; omega), (by dsimp only; omega)⟩ (fun H locs hW => ?_)
      refine lv_iload_n hx hb dL_build_26 rfl (lv_at hl 3 rfl) ?_
      refine lv_bipush (v := 16) hx hb dL_build_27 (by decide) ?_
      refine lv_idiv hx hb dL_build_29 (by decide) ?_
      refine lv_iconst (v := 4) hx hb dL_build_30 (by decide) ?_
      refine lv_imul hx hb dL_build_31 ?_
      refine lv_ishr hx hb dL_build_32 ?_
      refine lv_sipush (v := 257) hx hb dL_build_33 (by decide) ?_
      refine lv_iload_n hx hb dL_build_36 rfl (lv_at hl 3 rfl) ?_
      refine lv_imul hx hb dL_build_37 ?_
      refine lv_iadd hx hb dL_build_38 ?_
      refine lv_iload_n hx hb dL_build_39 rfl (lv_at hl 3 rfl) ?_
      refine lv_bipush (v := 8) hx hb dL_build_40 (by decide) ?_
      refine lv_icmp_ge (tgt := 55) hx hb dL_build_42 (by decide) (fun c42 => ?_) (fun c42 => ?_)
      · refine lv_iconst (v := 0) hx hb dL_build_55 (by decide) ?_
        refine lv_iadd hx hb dL_build_56 ?_
        obtain ⟨x9, hx9⟩ : ∃ z : Int32, (((cvl L xs (k % 16) >>> (((nI k / 16) * 4) &&& 31)) + (257 * nI k)) + 0) = z := ⟨_, rfl⟩
        refine z_top2 (y := x9) hx9 ?_
        refine z_gSi (As := [.ref (ad1 0), .ref (ad1 28), .int x9]) (rest := []) S hE hW (cL_act_ok l D ad1 cy sa H.size N B h al ex hI (by omega) x9 hfl) (va_cwS 3 hts gL_build_L_act rfl rfl rfl (by decide +kernel) ⟨Nat.le_of_ble_eq_true rfl, Nat.le_of_ble_eq_true rfl⟩) rfl hl.1 rfl (Nat.le_of_ble_eq_true rfl) dL_build_57 ⟨(by dsimp only; omega), (by dsimp only; omega)⟩ (fun r u H locs hp hW => ?_)
        obtain ⟨ad2, al2, N2, B2⟩ := u
        obtain ⟨rfl, hI2, had2, hae2⟩ := hp
        replace hW : WS D (35 + 2 * N2 + B2) ad2 (sW cy ad2 N2 B2 al2 al2 ex) (Acc 28 ad s.heap.size) s.heap H locs := hW
        replace hI2 : InvT al2 N2 B2 h := hI2
        replace had2 : ad2 0 = ad1 0 := had2
        replace hae2 : ad2 28 = ad1 28 := hae2
        have hN62 := hI2.1.1.2.1
        have hB42 := hI2.1.1.2.2.2.1
        replace hl : lv_has ls 4 [(0, .ref (ad2 0)), (1, .ref b), (2, .ref (ad2 28)), (3, .int (nI k))] := by rw [had2, hae2]; exact hl
        refine lv_if_ne (tgt := 65) hx hb dL_build_60 (by decide) (fun _ => ?_) (fun h => absurd h (by decide))
        refine lv_iload_n hx hb dL_build_65 rfl (lv_at hl 3 rfl) ?_
        refine lv_bipush (v := 10) hx hb dL_build_66 (by decide) ?_
        refine lv_icmp_le (tgt := 91) hx hb dL_build_68 (by decide) (fun c68 => ?_) (fun c68 => ?_)
        · refine lv_iinc (v := nI (k + 1)) (lv' := [(3, .int (nI (k + 1))), (0, .ref (ad2 0)), (1, .ref b), (2, .ref (ad2 28))]) hx hb dL_build_91 hl (k := 3) rfl (nI_1 _) (by decide) rfl (fun ls hl => ?_)
          refine lv_goto (tgt := 10) hx hb dL_build_94 (by decide) ?_
          refine W.widen (k := 7 + 17 * (k + 1)) (n := 30 + 122 * (k + 1)) (by omega) (by omega) ?_
          exact ih (k + 1) N2 B2 h al2 ad2 H locs ls (by omega) hI2 (by omega) ((had2).trans had0) hW (lv_sub hl [1, 2, 3, 0] rfl)
        · refine lv_iload_n hx hb dL_build_71 rfl (lv_at hl 3 rfl) ?_
          refine lv_iconst (v := 3) hx hb dL_build_72 (by decide) ?_
          refine lv_irem hx hb dL_build_73 (by decide) ?_
          refine lv_if_ne (tgt := 91) hx hb dL_build_74 (by decide) (fun c74 => ?_) (fun c74 => ?_)
          · refine lv_iinc (v := nI (k + 1)) (lv' := [(3, .int (nI (k + 1))), (0, .ref (ad2 0)), (1, .ref b), (2, .ref (ad2 28))]) hx hb dL_build_91 hl (k := 3) rfl (nI_1 _) (by decide) rfl (fun ls hl => ?_)
            refine lv_goto (tgt := 10) hx hb dL_build_94 (by decide) ?_
            refine W.widen (k := 7 + 17 * (k + 1)) (n := 30 + 122 * (k + 1)) (by omega) (by omega) ?_
            exact ih (k + 1) N2 B2 h al2 ad2 H locs ls (by omega) hI2 (by omega) ((had2).trans had0) hW (lv_sub hl [1, 2, 3, 0] rfl)
          · refine lv_aload_n hx hb dL_build_77 rfl (lv_at hl 0 rfl) ?_
            refine lv_iconst (v := 1) hx hb dL_build_78 (by decide) ?_
            refine z_xVi (As := [.int 1]) (rest := []) (k := 0) S hE hW (cX3_pass_ok l D (35 + 2 * N2 + B2) ad2 cy sa H.size (by omega) al2 (exS cy ad2 N2 B2 al2 ex) 1 N2 hI2.1.1.1 hI2.1.1.2.1 h hI2.1.1.2.2.2.2 (by omega) hI2.1.ab hfl) (cwV 1 hts gL_build_X3_pass rfl rfl rfl (by decide +kernel) ⟨Nat.le_of_ble_eq_true rfl, Nat.le_of_ble_eq_true rfl⟩) (by omega) cC_0 rfl rfl rfl hl.1 rfl (Nat.le_of_ble_eq_true rfl) dL_build_79 ⟨(by dsimp only; omega), (by dsimp only; omega)⟩ (fun E x9 q9 H locs hbad hW hx9 hv9 hc9 => absurd hbad (zbad_0 (k0_pass1))) (fun r _ H locs hp hW => ?_)
            obtain ⟨-, rfl⟩ := hp
            rw [u_pass1] at hW
            refine z_top2 (y := (ash (hourS al2) - ash al2)) v_pass1 ?_
            refine lv_aload_n hx hb dL_build_82 rfl (lv_at hl 2 rfl) ?_
            refine z_gVi (As := []) (rest := [.int (ash (hourS al2) - ash al2)]) (k := 28) S hE hW (cX4_pass_ok l D (35 + 2 * N2 + B2) ad2 cy sa H.size N2 B2 (by omega) hI2.1.1.2.1 hI2.1.1.2.2.2.1 (hourS al2) al2 ex h hI2.1.1.1 hI2.1.1.2.2.2.2 (by omega) hI2.1.ab hI2.1.2.2.2.2.1) (cwV 0 hts gL_build_X4_pass rfl rfl rfl (by decide +kernel) ⟨Nat.le_of_ble_eq_true rfl, Nat.le_of_ble_eq_true rfl⟩) (by omega) sW_28 rfl rfl rfl hl.1 rfl (Nat.le_of_ble_eq_true rfl) dL_build_83 ⟨(by dsimp only; omega), (by dsimp only; omega)⟩ (fun r ad3 H locs hp hW => ?_)
            obtain ⟨rfl, had3⟩ := hp
            replace hW : WS D (35 + 2 * N2 + B2) ad3 (sW cy ad3 N2 B2 (hourS al2) (hourS al2) ex) (Acc 28 ad s.heap.size) s.heap H locs := hW
            replace hl : lv_has ls 4 [(0, .ref (ad3 0)), (1, .ref b), (2, .ref (ad3 28)), (3, .int (nI k))] := by
              rw [had3 0 (fun i hi => by omega), had3 28 (fun i hi => by omega)]; exact hl
            have hI3 := hI2.hour (by omega)
            have hN63 := hI3.1.1.2.1
            have hB43 := hI3.1.1.2.2.2.1
            refine lv_icmp_eq (tgt := 91) hx hb dL_build_86 (by decide) (fun _ => ?_) (fun h => absurd rfl h)
            refine lv_iinc (v := nI (k + 1)) (lv' := [(3, .int (nI (k + 1))), (0, .ref (ad3 0)), (1, .ref b), (2, .ref (ad3 28))]) hx hb dL_build_91 hl (k := 3) rfl (nI_1 _) (by decide) rfl (fun ls hl => ?_)
            refine lv_goto (tgt := 10) hx hb dL_build_94 (by decide) ?_
            refine W.widen (k := 7 + 17 * (k + 1)) (n := 30 + 122 * (k + 1)) (by omega) (by omega) ?_
            exact ih (k + 1) N2 B2 (h + 1) (hourS al2) ad3 H locs ls (by omega) hI3 (by omega) ((((had3 0 (fun i hi => by omega))).trans (had2)).trans had0) hW (lv_sub hl [1, 2, 3, 0] rfl)
      · refine lv_sipush (v := 512) hx hb dL_build_45 (by decide) ?_
        refine lv_iload_n hx hb dL_build_48 rfl (lv_at hl 3 rfl) ?_
        refine lv_iconst (v := 4) hx hb dL_build_49 (by decide) ?_
        refine lv_irem hx hb dL_build_50 (by decide) ?_
        refine lv_imul hx hb dL_build_51 ?_
        refine lv_goto (tgt := 56) hx hb dL_build_52 (by decide) ?_
        refine lv_iadd hx hb dL_build_56 ?_
        obtain ⟨x9, hx9⟩ : ∃ z : Int32, (((cvl L xs (k % 16) >>> (((nI k / 16) * 4) &&& 31)) + (257 * nI k)) + (512 * (nI k - nI k / 4 * 4))) = z := ⟨_, rfl⟩
        refine z_top2 (y := x9) hx9 ?_
        refine z_gSi (As := [.ref (ad1 0), .ref (ad1 28), .int x9]) (rest := []) S hE hW (cL_act_ok l D ad1 cy sa H.size N B h al ex hI (by omega) x9 hfl) (va_cwS 3 hts gL_build_L_act rfl rfl rfl (by decide +kernel) ⟨Nat.le_of_ble_eq_true rfl, Nat.le_of_ble_eq_true rfl⟩) rfl hl.1 rfl (Nat.le_of_ble_eq_true rfl) dL_build_57 ⟨(by dsimp only; omega), (by dsimp only; omega)⟩ (fun r u H locs hp hW => ?_)
        obtain ⟨ad4, al4, N4, B4⟩ := u
        obtain ⟨rfl, hI4, had4, hae4⟩ := hp
        replace hW : WS D (35 + 2 * N4 + B4) ad4 (sW cy ad4 N4 B4 al4 al4 ex) (Acc 28 ad s.heap.size) s.heap H locs := hW
        replace hI4 : InvT al4 N4 B4 h := hI4
        replace had4 : ad4 0 = ad1 0 := had4
        replace hae4 : ad4 28 = ad1 28 := hae4
        have hN64 := hI4.1.1.2.1
        have hB44 := hI4.1.1.2.2.2.1
        replace hl : lv_has ls 4 [(0, .ref (ad4 0)), (1, .ref b), (2, .ref (ad4 28)), (3, .int (nI k))] := by rw [had4, hae4]; exact hl
        refine lv_if_ne (tgt := 65) hx hb dL_build_60 (by decide) (fun _ => ?_) (fun h => absurd h (by decide))
        refine lv_iload_n hx hb dL_build_65 rfl (lv_at hl 3 rfl) ?_
        refine lv_bipush (v := 10) hx hb dL_build_66 (by decide) ?_
        refine lv_icmp_le (tgt := 91) hx hb dL_build_68 (by decide) (fun c68 => ?_) (fun c68 => ?_)
        · refine lv_iinc (v := nI (k + 1)) (lv' := [(3, .int (nI (k + 1))), (0, .ref (ad4 0)), (1, .ref b), (2, .ref (ad4 28))]) hx hb dL_build_91 hl (k := 3) rfl (nI_1 _) (by decide) rfl (fun ls hl => ?_)
          refine lv_goto (tgt := 10) hx hb dL_build_94 (by decide) ?_
          refine W.widen (k := 7 + 17 * (k + 1)) (n := 30 + 122 * (k + 1)) (by omega) (by omega) ?_
          exact ih (k + 1) N4 B4 h al4 ad4 H locs ls (by omega) hI4 (by omega) ((had4).trans had0) hW (lv_sub hl [1, 2, 3, 0] rfl)
        · refine lv_iload_n hx hb dL_build_71 rfl (lv_at hl 3 rfl) ?_
          refine lv_iconst (v := 3) hx hb dL_build_72 (by decide) ?_
          refine lv_irem hx hb dL_build_73 (by decide) ?_
          refine lv_if_ne (tgt := 91) hx hb dL_build_74 (by decide) (fun c74 => ?_) (fun c74 => ?_)
          · refine lv_iinc (v := nI (k + 1)) (lv' := [(3, .int (nI (k + 1))), (0, .ref (ad4 0)), (1, .ref b), (2, .ref (ad4 28))]) hx hb dL_build_91 hl (k := 3) rfl (nI_1 _) (by decide) rfl (fun ls hl => ?_)
            refine lv_goto (tgt := 10) hx hb dL_build_94 (by decide) ?_
            refine W.widen (k := 7 + 17 * (k + 1)) (n := 30 + 122 * (k + 1)) (by omega) (by omega) ?_
            exact ih (k + 1) N4 B4 h al4 ad4 H locs ls (by omega) hI4 (by omega) ((had4).trans had0) hW (lv_sub hl [1, 2, 3, 0] rfl)
          · refine lv_aload_n hx hb dL_build_77 rfl (lv_at hl 0 rfl) ?_
            refine lv_iconst (v := 1) hx hb dL_build_78 (by decide) ?_
            refine z_xVi (As := [.int 1]) (rest := []) (k := 0) S hE hW (cX3_pass_ok l D (35 + 2 * N4 + B4) ad4 cy sa H.size (by omega) al4 (exS cy ad4 N4 B4 al4 ex) 1 N4 hI4.1.1.1 hI4.1.1.2.1 h hI4.1.1.2.2.2.2 (by omega) hI4.1.ab hfl) (cwV 1 hts gL_build_X3_pass rfl rfl rfl (by decide +kernel) ⟨Nat.le_of_ble_eq_true rfl, Nat.le_of_ble_eq_true rfl⟩) (by omega) cC_0 rfl rfl rfl hl.1 rfl (Nat.le_of_ble_eq_true rfl) dL_build_79 ⟨(by dsimp only; omega), (by dsimp only; omega)⟩ (fun E x9 q9 H locs hbad hW hx9 hv9 hc9 => absurd hbad (zbad_0 (k0_pass1))) (fun r _ H locs hp hW => ?_)
            obtain ⟨-, rfl⟩ := hp
            rw [u_pass1] at hW
            refine z_top2 (y := (ash (hourS al4) - ash al4)) v_pass1 ?_
            refine lv_aload_n hx hb dL_build_82 rfl (lv_at hl 2 rfl) ?_
            refine z_gVi (As := []) (rest := [.int (ash (hourS al4) - ash al4)]) (k := 28) S hE hW (cX4_pass_ok l D (35 + 2 * N4 + B4) ad4 cy sa H.size N4 B4 (by omega) hI4.1.1.2.1 hI4.1.1.2.2.2.1 (hourS al4) al4 ex h hI4.1.1.1 hI4.1.1.2.2.2.2 (by omega) hI4.1.ab hI4.1.2.2.2.2.1) (cwV 0 hts gL_build_X4_pass rfl rfl rfl (by decide +kernel) ⟨Nat.le_of_ble_eq_true rfl, Nat.le_of_ble_eq_true rfl⟩) (by omega) sW_28 rfl rfl rfl hl.1 rfl (Nat.le_of_ble_eq_true rfl) dL_build_83 ⟨(by dsimp only; omega), (by dsimp only; omega)⟩ (fun r ad5 H locs hp hW => ?_)
            obtain ⟨rfl, had5⟩ := hp
            replace hW : WS D (35 + 2 * N4 + B4) ad5 (sW cy ad5 N4 B4 (hourS al4) (hourS al4) ex) (Acc 28 ad s.heap.size) s.heap H locs := hW
            replace hl : lv_has ls 4 [(0, .ref (ad5 0)), (1, .ref b), (2, .ref (ad5 28)), (3, .int (nI k))] := by
              rw [had5 0 (fun i hi => by omega), had5 28 (fun i hi => by omega)]; exact hl
            have hI5 := hI4.hour (by omega)
            have hN65 := hI5.1.1.2.1
            have hB45 := hI5.1.1.2.2.2.1
            refine lv_icmp_eq (tgt := 91) hx hb dL_build_86 (by decide) (fun _ => ?_) (fun h => absurd rfl h)
            refine lv_iinc (v := nI (k + 1)) (lv' := [(3, .int (nI (k + 1))), (0, .ref (ad5 0)), (1, .ref b), (2, .ref (ad5 28))]) hx hb dL_build_91 hl (k := 3) rfl (nI_1 _) (by decide) rfl (fun ls hl => ?_)
            refine lv_goto (tgt := 10) hx hb dL_build_94 (by decide) ?_
            refine W.widen (k := 7 + 17 * (k + 1)) (n := 30 + 122 * (k + 1)) (by omega) (by omega) ?_
            exact ih (k + 1) N4 B4 (h + 1) (hourS al4) ad5 H locs ls (by omega) hI5 (by omega) ((((had5 0 (fun i hi => by omega))).trans (had4)).trans had0) hW (lv_sub hl [1, 2, 3, 0] rfl)
  exact L10 (36) 0 0 0 0 al0 ad1 _ _ ls (by omega) InvT.begin (Nat.le_refl 0) e0 hW (lv_sub hl [2, 3, 1, 0] rfl)
