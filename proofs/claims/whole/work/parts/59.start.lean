/-! The law's entry. -/
def adL (u v : Nat → Nat) (q2 : Nat) : Nat → Nat := fun k => if k < 28 then u k else if k < 35 then v (k - 28) else q2
abbrev F4w (cy v : Nat → Nat) : va_W := [(v 0, .inr (4, [.int 0, .int 0, .int 0, .ref (v 1), .ref (v 2), .ref (v 3), .ref (v 4), .ref (v 5), .ref (v 6)])), (v 1, .inl (cy 0, 5, .inl st0)), (v 2, .inl (cy 0, 5, .inl sw0)), (v 3, .inl (cy 0, 8, .inl (fun _ => 0))), (v 4, .inl (cy 0, 72, .inl (fun _ => 0))), (v 5, .inl (cy 0, 12, .inl (fun _ => 0))), (v 6, .inl (cy 0, 6, .inl (fun _ => 0)))]
theorem start_WS {D : va_G} {A : Nat → Prop} {H0 H : Heap} {locs : List Loc} {cy u v : Nat → Nat} {q2 : Nat} (hL : yLS D ((wL 28 u (cC cy u al0 exo) ++ F4w cy v) ++ [(q2, .inl (cy 4, 1, .inr (.inl (fun _ => 0))))]) A H0 H locs) : WS D 36 (adL u v q2) (lwC cy (adL u v q2) al0 0 (fun _ => 0)) A H0 H locs := by
  have k1 : ∀ k, k < 28 → ((wL 28 u (cC cy u al0 exo) ++ F4w cy v) ++ [(q2, .inl (cy 4, 1, .inr (.inl (fun _ => 0))))])[k]? = some (u k, cC cy u al0 exo k) := fun k hk => by
    rw [List.append_assoc, List.getElem?_append_left (by rw [wL_len]; exact hk), wL_get hk]
  have k2 : ∀ (j : Nat) (e : Nat × va_E), (F4w cy v ++ [(q2, .inl (cy 4, 1, .inr (.inl (fun _ => 0))))])[j]? = some e → ((wL 28 u (cC cy u al0 exo) ++ F4w cy v) ++ [(q2, .inl (cy 4, 1, .inr (.inl (fun _ => 0))))])[28 + j]? = some e := fun j e h => by
    rw [List.append_assoc, List.getElem?_append_right (by rw [wL_len]; omega), wL_len, Nat.add_sub_cancel_left]
    exact h
  have key : ∀ k, k < 36 → ∃ e, ((wL 28 u (cC cy u al0 exo) ++ F4w cy v) ++ [(q2, .inl (cy 4, 1, .inr (.inl (fun _ => 0))))])[k]? = some (adL u v q2 k, e) := by
    intro k hk
    by_cases h : k < 28
    · exact ⟨_, by rw [k1 k h]; unfold adL; rw [if_pos h]⟩
    · obtain ⟨j, rfl⟩ : ∃ j, k = 28 + j := ⟨k - 28, by omega⟩
      rcases (show j = 0 ∨ j = 1 ∨ j = 2 ∨ j = 3 ∨ j = 4 ∨ j = 5 ∨ j = 6 ∨ j = 7 by omega) with rfl | rfl | rfl | rfl | rfl | rfl | rfl | rfl <;> exact ⟨_, k2 _ _ rfl⟩
  refine ⟨fun k q hq => ?_, ⟨fun i j p q hi hj e => ?_, fun k q hq => ?_⟩, hL.2.2⟩
  · obtain ⟨hk, rfl⟩ := wL_inv hq
    have hs : slo al0 = fun _ => 0 := slo_0
    have hf : fle al0 = fun _ => 0 := fle_0
    have hn : num al0 = fun _ => 0 := num_0
    rcases (show k = 0 ∨ k = 1 ∨ k = 2 ∨ k = 3 ∨ k = 4 ∨ k = 5 ∨ k = 6 ∨ k = 7 ∨ k = 8 ∨ k = 9 ∨ k = 10 ∨ k = 11 ∨ k = 12 ∨ k = 13 ∨ k = 14 ∨ k = 15 ∨ k = 16 ∨ k = 17 ∨ k = 18 ∨ k = 19 ∨ k = 20 ∨ k = 21 ∨ k = 22 ∨ k = 23 ∨ k = 24 ∨ k = 25 ∨ k = 26 ∨ k = 27 ∨ k = 28 ∨ k = 29 ∨ k = 30 ∨ k = 31 ∨ k = 32 ∨ k = 33 ∨ k = 34 ∨ k = 35 by omega) with rfl | rfl | rfl | rfl | rfl | rfl | rfl | rfl | rfl | rfl | rfl | rfl | rfl | rfl | rfl | rfl | rfl | rfl | rfl | rfl | rfl | rfl | rfl | rfl | rfl | rfl | rfl | rfl | rfl | rfl | rfl | rfl | rfl | rfl | rfl | rfl
    · exact hL.1 0 _ (k1 0 (by decide))
    · exact hL.1 1 _ (k1 1 (by decide))
    · exact hL.1 2 _ (k1 2 (by decide))
    · exact hL.1 3 _ (k1 3 (by decide))
    · have h9 := hL.1 4 _ (k1 4 (by decide))
      show H[u 4]? = some (vp_cell (cy 1) (6, .inr (.inr (.inr (.inr (fun i => some (adL u v q2 (10 + i))))))))
      rw [← ycell_q (f := fun i => some (u (10 + i))) (fun i hi => by unfold adL; rw [if_pos (by omega)])]
      exact h9
    · have h9 := hL.1 5 _ (k1 5 (by decide))
      show H[u 5]? = some (vp_cell (cy 2) (4, .inr (.inr (.inr (.inr (fun i => some (adL u v q2 (24 + i))))))))
      rw [← ycell_q (f := fun i => some (u (24 + i))) (fun i hi => by unfold adL; rw [if_pos (by omega)])]
      exact h9
    · exact hL.1 6 _ (k1 6 (by decide))
    · exact hL.1 7 _ (k1 7 (by decide))
    · exact hL.1 8 _ (k1 8 (by decide))
    · exact hL.1 9 _ (k1 9 (by decide))
    · exact hL.1 10 _ (k1 10 (by decide))
    · exact hL.1 11 _ (k1 11 (by decide))
    · exact hL.1 12 _ (k1 12 (by decide))
    · exact hL.1 13 _ (k1 13 (by decide))
    · exact hL.1 14 _ (k1 14 (by decide))
    · exact hL.1 15 _ (k1 15 (by decide))
    · exact hL.1 16 _ (k1 16 (by decide))
    · exact hL.1 17 _ (k1 17 (by decide))
    · exact hL.1 18 _ (k1 18 (by decide))
    · exact hL.1 19 _ (k1 19 (by decide))
    · exact hL.1 20 _ (k1 20 (by decide))
    · exact hL.1 21 _ (k1 21 (by decide))
    · exact hL.1 22 _ (k1 22 (by decide))
    · exact hL.1 23 _ (k1 23 (by decide))
    · exact hL.1 24 _ (k1 24 (by decide))
    · exact hL.1 25 _ (k1 25 (by decide))
    · exact hL.1 26 _ (k1 26 (by decide))
    · exact hL.1 27 _ (k1 27 (by decide))
    · exact hL.1 28 _ (k2 0 _ rfl)
    · exact hL.1 29 _ (k2 1 _ rfl)
    · exact hL.1 30 _ (k2 2 _ rfl)
    · exact hL.1 31 _ (k2 3 _ rfl)
    · have h9 := hL.1 32 _ (k2 4 _ rfl)
      show H[v 4]? = some (vp_cell (cy 0) (72, .inl (slo al0)))
      rw [hs]
      exact h9
    · have h9 := hL.1 33 _ (k2 5 _ rfl)
      show H[v 5]? = some (vp_cell (cy 0) (12, .inl (fle al0)))
      rw [hf]
      exact h9
    · have h9 := hL.1 34 _ (k2 6 _ rfl)
      show H[v 6]? = some (vp_cell (cy 0) (6, .inl (num al0)))
      rw [hn]
      exact h9
    · exact hL.1 35 _ (k2 7 _ rfl)
  · obtain ⟨hi2, rfl⟩ := wL_inv hi
    obtain ⟨hj2, rfl⟩ := wL_inv hj
    obtain ⟨e1, h1⟩ := key i hi2
    obtain ⟨e2, h2⟩ := key j hj2
    exact hL.2.1.1 i j _ _ h1 h2 e
  · obtain ⟨hk, rfl⟩ := wL_inv hq
    obtain ⟨e1, h1⟩ := key k hk
    exact hL.2.1.2 k (adL u v q2 k, e1) h1
theorem ys_metT {l : Launch} {y : MethodName} {wsy : List Cond} {rm : Room} {Qc : Array Value → State → Outcome → State → Prop} {mc ms : Nat} {free : Addr → Prop} {D : va_G} {cy sa : Nat → Nat} {ws : va_W} {sz : Nat} {av : List Value} (h : Met l y wsy rm (PL D ws cy sa sz av) Qc mc ms free) : Met l y wsy rm (fun a U => PL D ws cy sa sz av a U ∧ True) Qc mc ms free := by
  have e : (fun a U => PL D ws cy sa sz av a U ∧ True) = PL D ws cy sa sz av := by
    funext a U
    exact propext ⟨fun z => z.1, fun z => ⟨z, trivial⟩⟩
  rw [e]
  exact h
theorem z_strs {args : Array Value} {s : State} {c3 : ClassId} (h3 : s.vm.findClass RX3 = some c3) (h : ∀ q ∈ zT, (Cond.stringRef RX3 q.1 q.2).before args s = true) : ∃ sa : Nat → Nat, ∀ (k i : Nat) (t : String), zT[k]? = some (i, t) → vk_R RX3 i t (sa k) s := by
  have h1 : ∀ k : Nat, ∃ a : Nat, ∀ (i : Nat) (t : String), zT[k]? = some (i, t) → vk_R RX3 i t a s := by
    intro k
    cases hk : zT[k]? with
    | none => exact ⟨0, fun i t q => by cases q⟩
    | some q =>
      obtain ⟨i, t⟩ := q
      have h2 := h (i, t) (List.mem_of_getElem? hk)
      obtain ⟨k', cf, i', a, -, -, -, -, -, hev⟩ := Cond.stringRef_spec h3 h2
      refine ⟨a, fun i2 t2 q => ?_⟩
      cases q
      exact vk_R.of h2 hev
  exact ⟨fun k => Classical.choose (h1 k), fun k => Classical.choose_spec (h1 k)⟩
theorem z_zN : ∀ w ∈ zN, w ∈ lw_tbl := by decide +kernel
theorem z_zT : ∀ q ∈ zT, Cond.stringRef RX3 q.1 q.2 ∈ lw_tbl := by decide +kernel
set_option maxHeartbeats 8000000 in
set_option maxRecDepth 100000 in
theorem whole_start {p : Program} {e : Env} {s : State} {m : MethodId} {below : List Frame} {meth : Method} {c : Code} (l : Launch) (hflags : l.flags = flags0) {b L : Nat} {xs : Nat → Int32} (hL : L ≤ 2048) (C0 : lw_At p s m meth c b L xs) : W p l e room_1 s m #[Value.ref b] below meth c s.heap [] 0 0 (lw_Z below #[Value.ref b] s) (entryFrame m ([Value.ref b] : List Value).toArray 9) := by
  obtain ⟨hx, hb, hr, hml, hown, hts0, hX, hbl, hlocks, hgv⟩ := id C0
  have hfl : l.stackTraces = false := by
    unfold Launch.stackTraces
    rw [hflags]
    decide +kernel
  have hts : ∀ w ∈ wsL_law, w.before #[Value.ref b] s = true := fun w h => hts0 w (wsL_law_in w h)
  have hgf := flat_of_before _ hgv
  have tw : ∀ {w : Cond} (i : Nat), lw_tbl[i]? = some w → w.before #[Value.ref b] s = true := fun i h => hts0 _ (List.mem_of_getElem? h)
  obtain ⟨c0, iS0, k0⟩ := u_known (C := RX0) (T := TX0) (N := 3) (n := 3) hts0 inX0 (tw 107 (by decide +kernel))
  obtain ⟨c1, iS1, k1⟩ := u_known (C := RX1) (T := TX1) (N := 2) (n := 2) hts0 inX1 (tw 64 (by decide +kernel))
  obtain ⟨c2, iS2, k2⟩ := u_known (C := RX2) (T := TX2) (N := 5) (n := 5) hts0 inX2 (tw 81 (by decide +kernel))
  obtain ⟨c3, iS3, k3⟩ := u_known (C := RX3) (T := TX3) (N := 12) (n := 12) hts0 inX3 (tw 52 (by decide +kernel))
  obtain ⟨c4, iS4, k4⟩ := u_known (C := RX4) (T := TX4) (N := 9) (n := 9) hts0 inX4 (tw 578 (by decide +kernel))
  have hw2 : (Cond.arrayOver (.object RX2)).before #[Value.ref b] s = true := hts0 _ (by decide +kernel)
  have hw0 : (Cond.arrayOver (.object RX0)).before #[Value.ref b] s = true := hts0 _ (by decide +kernel)
  have hwA : (Cond.arrayOver (.array .int)).before #[Value.ref b] s = true := hts0 _ (by decide +kernel)
  have har : (Cond.arrayClass .int).before #[Value.ref b] s = true := tw 80 (by decide +kernel)
  have harL : (Cond.arrayClass .long).before #[Value.ref b] s = true := tw 812 (by decide +kernel)
  obtain ⟨a0, kk0, cc0, f0, g0, h0⟩ := Cond.arrayClass_spec har
  obtain ⟨a4, kk4, cc4, f4, g4, h4⟩ := Cond.arrayClass_spec harL
  obtain ⟨cc1, a1, kk1, m1, n1, g1, h1, f1⟩ := Cond.arrayOver_spec hw2
  obtain ⟨cc2, a2, kk2, m2, n2, g2, h2, f2⟩ := Cond.arrayOver_spec hw0
  obtain ⟨cc3, a3, kk3, m3, n3, g3, h3, f3⟩ := arrayOverA_spec hwA
  obtain ⟨sa, hsa⟩ := z_strs k3.2.1 (fun q hq => hts0 _ (z_zT q hq))
  obtain ⟨cy, y0, y1, y2, y3, y4⟩ : ∃ cy : Nat → Nat, cy 0 = a0 ∧ cy 1 = a1 ∧ cy 2 = a2 ∧ cy 3 = a3 ∧ cy 4 = a4 := ⟨fun k => if k = 0 then a0 else if k = 1 then a1 else if k = 2 then a2 else if k = 3 then a3 else a4, rfl, rfl, rfl, rfl, rfl⟩
  subst y0 y1 y2 y3 y4
  obtain ⟨D, hD5⟩ : ∃ D : va_G, ∀ (k : Nat) (q : vw_C), vwCl[k]? = some q → u_Kn s q.1 q.2.1 q.2.2 (D.1 k) (D.2 k) := by
    refine ⟨(fun k => if k = 0 then c0 else if k = 1 then c1 else if k = 2 then c2 else if k = 3 then c3 else c4, fun k => if k = 0 then iS0 else if k = 1 then iS1 else if k = 2 then iS2 else if k = 3 then iS3 else iS4), ?_⟩
    intro k q hq
    match k, hq with
    | 0, hq => cases hq; exact k0
    | 1, hq => cases hq; exact k1
    | 2, hq => cases hq; exact k2
    | 3, hq => cases hq; exact k3
    | 4, hq => cases hq; exact k4
    | k + 5, hq => simp [vwCl] at hq
  have hK : va_K D vwCl (tyA cy) s := by
    refine ⟨hD5, fun k q hk => ?_⟩
    match k, hk with
    | 0, hk => cases hk; exact ⟨fun n z => ⟨(fun k h => by cases h), kk0, g0, cc0, h0⟩, f0⟩
    | 1, hk => cases hk; exact ⟨fun n z => ⟨(fun k h => by cases h), kk1, g1, cc1, h1⟩, kk1, cc1, g1, h1, m1, f1⟩
    | 2, hk => cases hk; exact ⟨fun n z => ⟨(fun k h => by cases h), kk2, g2, cc2, h2⟩, kk2, cc2, g2, h2, m2, f2⟩
    | 3, hk => cases hk; exact ⟨fun n z => ⟨(fun k h => by cases h), kk3, g3, cc3, h3⟩, f3⟩
    | 4, hk => cases hk; exact ⟨fun n z => ⟨(fun k h => by cases h), kk4, g4, cc4, h4⟩, f4⟩
    | k + 5, hk => simp [tyA] at hk
  have hNW : NW s := fun w hw => va_Nw.of (zNk_tab (List.all_eq_true.mp zN_k w hw)) (hts0 w (z_zN w hw))
  have hnc : ∀ q ∈ zC, va_Nc q.1 q.2 s := by
    intro q hq
    rcases List.mem_cons.mp hq with rfl | hq
    · exact va_Nc.of (hgf _ (by decide +kernel))
    rcases List.mem_cons.mp hq with rfl | hq
    · exact va_Nc.of (hgf _ (by decide +kernel))
    rcases List.mem_cons.mp hq with rfl | hq
    · exact va_Nc.of (hgf _ (by decide +kernel))
    rcases List.mem_cons.mp hq with rfl | hq
    · exact va_Nc.of (hgf _ (by decide +kernel))
    · cases hq
  have hE : ZEnv D cy sa (fun q => s.heap.size ≤ q) s := ⟨⟨hK, hNW, ⟨hsa, over_moved (Vm.Alike.refl s.vm) hwA, hnc⟩, vx_Zqof (args := #[Value.ref b]) (hts0 _ (by decide +kernel)) (hts0 _ (by decide +kernel)) (hgf _ (by decide +kernel)) (fun a h1 h2 => absurd h1 (Nat.not_lt.mpr h2)), vx_Zqof (args := #[Value.ref b]) (hts0 _ (by decide +kernel)) (hts0 _ (by decide +kernel)) (hgf _ (by decide +kernel)) (fun a h1 h2 => absurd h1 (Nat.not_lt.mpr h2))⟩, fun q h => h⟩
  have S : CallFix p m c cL_law 9 s #[Value.ref b] wsL_law RL := ⟨hx, hb, hml, hown, hts⟩
  have hl := lv_entry ([.ref b]) (n := 9) (Nat.le_of_ble_eq_true rfl)
  rw [lg_entry_eq]
  generalize (lg_sl ([.ref b]) ++ List.replicate (9 - (lg_sl ([.ref b])).length) Slot.unset).toArray = ls at hl ⊢
  have hl : lv_has ls 9 [(0, .ref b)] := hl
  have hW0 : yLS D [] (fun q => s.heap.size ≤ q) s.heap s.heap [] := ⟨fun k q h => by simp at h, ⟨fun i j p q h => by simp at h, fun k q h => by simp at h⟩, va_S.rf⟩
  refine y_new (ci := 3) (fs := [.null, .null, .null, .null, .int 0, .null, .int 0, .null, .int 0, .int 0, .null, .null]) (C := RX3) (T := TX3) (N := 12) S hE hW0 inlX3 tyX3 tyX3_ok (hts0 _ (by decide +kernel)) (tw 52 (by decide +kernel)) (tw 38 (by decide +kernel)) rfl (fun j hj => by rcases (show j = 0 ∨ j = 1 ∨ j = 2 ∨ j = 3 ∨ j = 4 ∨ j = 5 ∨ j = 6 ∨ j = 7 ∨ j = 8 ∨ j = 9 ∨ j = 10 ∨ j = 11 by omega) with rfl | rfl | rfl | rfl | rfl | rfl | rfl | rfl | rfl | rfl | rfl | rfl <;> rfl) (Nat.le_of_ble_eq_true rfl) (Nat.le_of_ble_eq_true rfl) dL_law_0 (fun q0 H hL1 => ?_)
  refine lv_dup hx hb dL_law_3 rfl ?_
  refine y_ctorI (rest := [.ref q0]) (ws := []) (X := fun U => va_AO RX2 U ∧ va_AO RX0 U) (fun U g mk a h => ⟨va_AO.moved (u := U) (U := U.calling g mk a) (Vm.Alike.refl U.vm) h.1, va_AO.moved (u := U) (U := U.calling g mk a) (Vm.Alike.refl U.vm) h.2⟩) (fun U hU => ⟨va_AO.moved hU.alike (va_AO.of hw2), va_AO.moved hU.alike (va_AO.of hw0)⟩) S hE hL1 (cX3_init_ok l D cy sa q0 H.size) (cwI 0 hts gL_law_X3_init rfl rfl rfl (tw 38 (by decide +kernel)) (hts0 _ (by decide +kernel)) (hts0 _ (by decide +kernel)) rfl (by decide +kernel) ⟨Nat.le_of_ble_eq_true rfl, Nat.le_of_ble_eq_true rfl⟩) hl.1 rfl (Nat.le_of_ble_eq_true rfl) dL_law_4 ⟨Nat.le_of_ble_eq_true rfl, Nat.le_of_ble_eq_true rfl⟩ (fun u H locs hu hL2 => ?_)
  replace hL2 : yLS D (wL 28 u (cC cy u al0 exo)) (fun q => s.heap.size ≤ q) s.heap H locs := hL2
  subst hu
  refine lv_astore_n (lv' := [(1, .ref (u 0)), (0, .ref b)]) hx hb dL_law_7 rfl hl (by decide) rfl (fun ls hl => ?_)
  refine y_new (ci := 4) (fs := [.int 0, .int 0, .int 0, .null, .null, .null, .null, .null, .null]) (C := RX4) (T := TX4) (N := 9) S hE hL2 inlX4 tyX4 tyX4_ok (hts0 _ (by decide +kernel)) (tw 578 (by decide +kernel)) (tw 42 (by decide +kernel)) rfl (fun j hj => by rcases (show j = 0 ∨ j = 1 ∨ j = 2 ∨ j = 3 ∨ j = 4 ∨ j = 5 ∨ j = 6 ∨ j = 7 ∨ j = 8 by omega) with rfl | rfl | rfl | rfl | rfl | rfl | rfl | rfl | rfl <;> rfl) (Nat.le_of_ble_eq_true rfl) (Nat.le_of_ble_eq_true rfl) dL_law_8 (fun q1 H hL3 => ?_)
  refine lv_dup hx hb dL_law_11 rfl ?_
  refine y_ctorI (rest := [.ref q1]) (X := fun _ => True) (fun _ _ _ _ h => h) (fun _ _ => trivial) S hE hL3 (ys_metT (cX4_init_ok l D cy sa q1 H.size)) (cwI 0 hts gL_law_X4_init rfl rfl rfl (tw 42 (by decide +kernel)) (hts0 _ (by decide +kernel)) (hts0 _ (by decide +kernel)) rfl (by decide +kernel) ⟨Nat.le_of_ble_eq_true rfl, Nat.le_of_ble_eq_true rfl⟩) hl.1 rfl (Nat.le_of_ble_eq_true rfl) dL_law_12 ⟨Nat.le_of_ble_eq_true rfl, Nat.le_of_ble_eq_true rfl⟩ (fun v H locs hv hL4 => ?_)
  subst hv
  refine lv_astore_n (lv' := [(2, .ref (v 0)), (1, .ref (u 0)), (0, .ref b)]) hx hb dL_law_15 rfl hl (by decide) rfl (fun ls hl => ?_)
  refine lv_iconst (v := 1) hx hb dL_law_16 (by decide) ?_
  refine y_newL (N := 1) S hE hL4 harL rfl (by decide) (Nat.le_of_ble_eq_true rfl) (Nat.le_of_ble_eq_true rfl) dL_law_17 (fun q2 H hL5 => ?_)
  have hW := start_WS hL5
  refine lv_astore_n (lv' := [(3, .ref q2), (2, .ref (v 0)), (1, .ref (u 0)), (0, .ref b)]) hx hb dL_law_19 rfl hl (by decide) rfl (fun ls hl => ?_)
  refine lv_iconst (v := 0) hx hb dL_law_20 (by decide) ?_
  refine lv_istore (lv' := [(4, .int 0), (3, .ref q2), (2, .ref (v 0)), (1, .ref (u 0)), (0, .ref b)]) hx hb dL_law_21 hl (by decide) rfl (fun ls hl => ?_)
  refine W.widen (k := 100 + 8 * 0) (n := 400 + 100 * 0) (Nat.le_of_ble_eq_true rfl) (Nat.le_of_ble_eq_true rfl) ?_
  refine W.base ?_
  exact law_loop l (ad := adL u v q2) hfl hL S hE hX hbl hr hlocks 513 0 s.drawn al0 0 (fun _ => 0) 0 0 0 H locs ls rfl (Drawn.sameBut.refl s.drawn lw_cs) Inv.begin (Nat.zero_le _) hW hl
