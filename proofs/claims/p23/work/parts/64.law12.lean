/-! The law's hour: what is done, what is told before. -/
set_option maxHeartbeats 8000000 in
set_option maxRecDepth 100000 in
theorem lw_S1 {p : Program} (l : Launch) {e : Env} {s : State} {m : MethodId} {args : Array Value} {below : List Frame} {meth : Method} {c : Code} {H : Heap} {locs : List Loc} {cells slots : Nat} {Q : State → Prop} {ls : Array Slot} {D : va_G} {ad a0 cy sa : Nat → Nat} {A : Nat → Prop} {b L N B h n0 tm : Nat} {xs : Nat → Int32} {al : Nat → Nat → Int32} {ex : Nat → va_E} (hfl : l.stackTraces = false) (S : CallFix p m c cL_law 21 s args wsL_law RL) (hE : ZEnv D cy sa A s) (hcb : cells ≤ 100000) (hsb : slots ≤ 200000) (hI : InvT al N B h) (hh3 : h < 2 ^ 20) (hn0 : n0 = 35 + 2 * N + B) (hX : va_X b L xs s s.heap) (hbl : b < s.heap.size) (hbA : ¬ A b) (hL : L ≤ 260) (htm : tm < 36) (hW : WS D (35 + 2 * N + B) ad (sW cy ad N B al al ex) A s.heap H locs) (hl : lv_has ls 21 [(3, .int (nI tm)), (2, .ref (ad 28)), (1, .ref (ad 0)), (0, .ref b)]) (kk : ∀ (N B : Nat) (al : Nat → Nat → Int32) (ad : Nat → Nat) (H : Heap) (locs : List Loc) (ls : Array Slot), InvT al N B h → WS D (35 + 2 * N + B) ad (sW cy ad N B al al ex) A s.heap H locs → lv_has ls 21 [(3, .int (nI tm)), (2, .ref (ad 28)), (1, .ref (ad 0)), (0, .ref b)] → W p l e room_1 s m args below meth c H locs (cells + 12) (slots + 60) Q (F0 m 90 ls [])) : W p l e room_1 s m args below meth c H locs cells slots Q (F0 m 28 ls []) := by
  have hx := S.1
  have hb := S.2.1
  have hown := S.2.2.2.1
  have hts := S.2.2.2.2
  have hN := hI.1.1.1
  have hN6 := hI.1.1.2.1
  have hB := hI.1.1.2.2.1
  have hB4 := hI.1.1.2.2.2.1
  have hh := hI.1.1.2.2.2.2
  refine lv_aload_n hx hb dL_law_28 rfl (lv_at hl 3 rfl) ?_
  refine lv_iload_n hx hb dL_law_29 rfl (lv_at hl 0 rfl) ?_
  refine lv_bipush (v := 16) hx hb dL_law_30 (by decide) ?_
  refine lv_irem hx hb dL_law_32 (by decide) ?_
  refine z_top2 (y := nI (tm % 16)) (pk_rem (by omega) (by decide) (by decide)) ?_
  refine z_pX (As := [.ref b, .int (nI (tm % 16))]) (rest := []) S hW hX hbl hbA (cL_cell_ok l b L xs hL (tm % 16) (by omega)) (va_cwS 2 hts gL_law_L_cell rfl rfl rfl (by decide +kernel) ⟨Nat.le_of_ble_eq_true rfl, Nat.le_of_ble_eq_true rfl⟩) rfl hl.1 rfl (Nat.le_of_ble_eq_true rfl) dL_law_33 ⟨(Nat.le_trans (m := 600000) (by omega) (Nat.le_of_ble_eq_true rfl)), (Nat.le_trans (m := 600000) (by omega) (Nat.le_of_ble_eq_true rfl))⟩ (fun H locs hW => ?_)
  refine lv_iload_n hx hb dL_law_36 rfl (lv_at hl 0 rfl) ?_
  refine lv_bipush (v := 16) hx hb dL_law_37 (by decide) ?_
  refine lv_idiv hx hb dL_law_39 (by decide) ?_
  refine lv_iconst (v := 3) hx hb dL_law_40 (by decide) ?_
  refine lv_imul hx hb dL_law_41 ?_
  refine lv_ishr hx hb dL_law_42 ?_
  refine lv_sipush (v := 257) hx hb dL_law_43 (by decide) ?_
  refine lv_iload_n hx hb dL_law_46 rfl (lv_at hl 0 rfl) ?_
  refine lv_imul hx hb dL_law_47 ?_
  refine lv_iadd hx hb dL_law_48 ?_
  obtain ⟨x9, hx9⟩ : ∃ z : Int32, ((cvl L xs (tm % 16) >>> (((nI tm / 16) * 3) &&& 31)) + (257 * nI tm)) = z := ⟨_, rfl⟩
  refine z_top2 (y := x9) hx9 ?_
  refine lv_istore (lv' := [(4, .int x9), (3, .int (nI tm)), (2, .ref (ad 28)), (1, .ref (ad 0)), (0, .ref b)]) hx hb dL_law_49 hl (by decide) rfl (fun ls hl => ?_)
  refine lv_iconst (v := 0) hx hb dL_law_51 (by decide) ?_
  refine lv_istore (lv' := [(5, .int 0), (4, .int x9), (3, .int (nI tm)), (2, .ref (ad 28)), (1, .ref (ad 0)), (0, .ref b)]) hx hb dL_law_52 hl (by decide) rfl (fun ls hl => ?_)
  have L54 : ∀ (kq k : Nat) (N B : Nat) (al : Nat → Nat → Int32) (ad1 : Nat → Nat) (H : Heap) (locs : List Loc) (ls : Array Slot), k + kq = 3 → InvT al N B h → WS D (35 + 2 * N + B) ad1 (sW cy ad1 N B al al ex) A s.heap H locs → lv_has ls 21 [(5, .int (nI k)), (4, .int x9), (3, .int (nI tm)), (2, .ref (ad1 28)), (1, .ref (ad1 0)), (0, .ref b)] → W p l e room_1 s m args below meth c H locs (cells + 4 * k) (slots + 20 * k) Q (F0 m 54 ls []) := by
    intro kq
    induction kq with
    | zero =>
      intro k N B al ad1 H locs ls hjk hI hW hl
      have hjN : k = 3 := by omega
      try rw [hjN] at hW
      try rw [hjN] at hl
      refine lv_iload hx hb dL_law_54 (lv_at hl 0 rfl) ?_
      refine lv_iconst (v := 3) hx hb dL_law_56 (by decide) ?_
      refine lv_icmp_ge (tgt := 90) hx hb dL_law_57 (by decide) (fun _ => ?_) (fun h => absurd (by decide) h)
      refine W.widen (k := cells + 12) (n := slots + 60) (by omega) (by omega) ?_
      exact kk N B al ad1 H locs ls hI hW (lv_sub hl [2, 3, 4, 5] rfl)
    | succ kq ih =>
      intro k N B al ad1 H locs ls hjk hI hW hl
      have hj : k < 3 := by omega
      refine lv_iload hx hb dL_law_54 (lv_at hl 0 rfl) ?_
      refine lv_iconst (v := 3) hx hb dL_law_56 (by decide) ?_
      refine lv_icmp_ge (tgt := 90) hx hb dL_law_57 (by decide) (fun h => absurd h (nI_ge (b := 3) hj (by decide))) (fun _ => ?_)
      refine lv_aload_n hx hb dL_law_60 rfl (lv_at hl 4 rfl) ?_
      refine lv_aload_n hx hb dL_law_61 rfl (lv_at hl 3 rfl) ?_
      refine lv_iload hx hb dL_law_62 (lv_at hl 1 rfl) ?_
      refine lv_iconst (v := 2) hx hb dL_law_64 (by decide) ?_
      refine lv_iload hx hb dL_law_65 (lv_at hl 0 rfl) ?_
      refine lv_imul hx hb dL_law_67 ?_
      refine lv_ishr hx hb dL_law_68 ?_
      refine lv_sipush (v := 181) hx hb dL_law_69 (by decide) ?_
      refine lv_iload hx hb dL_law_72 (lv_at hl 0 rfl) ?_
      refine lv_imul hx hb dL_law_74 ?_
      refine lv_iadd hx hb dL_law_75 ?_
      refine z_gSi (As := [.ref (ad1 0), .ref (ad1 28), .int ((x9 >>> ((2 * nI k) &&& 31)) + (181 * nI k))]) (rest := []) S hE hW (cL_act_ok l D ad1 cy sa H.size N B h al ex hI (by omega) ((x9 >>> ((2 * nI k) &&& 31)) + (181 * nI k)) hfl) (va_cwS 3 hts gL_law_L_act rfl rfl rfl (by decide +kernel) ⟨Nat.le_of_ble_eq_true rfl, Nat.le_of_ble_eq_true rfl⟩) rfl hl.1 rfl (Nat.le_of_ble_eq_true rfl) dL_law_76 ⟨(Nat.le_trans (m := 600000) (by omega) (Nat.le_of_ble_eq_true rfl)), (Nat.le_trans (m := 600000) (by omega) (Nat.le_of_ble_eq_true rfl))⟩ (fun r u H locs hp hW => ?_)
      obtain ⟨ad10, al10, N10, B10⟩ := u
      obtain ⟨rfl, hI10, had10, hae10⟩ := hp
      replace hW : WS D (35 + 2 * N10 + B10) ad10 (sW cy ad10 N10 B10 al10 al10 ex) A s.heap H locs := hW
      replace hI10 : InvT al10 N10 B10 h := hI10
      replace had10 : ad10 0 = ad1 0 := had10
      replace hae10 : ad10 28 = ad1 28 := hae10
      have hN610 := hI10.1.1.2.1
      have hB410 := hI10.1.1.2.2.2.1
      replace hl : lv_has ls 21 [(5, .int (nI k)), (4, .int x9), (3, .int (nI tm)), (2, .ref (ad10 28)), (1, .ref (ad10 0)), (0, .ref b)] := by rw [had10, hae10]; exact hl
      refine lv_if_ne (tgt := 84) hx hb dL_law_79 (by decide) (fun _ => ?_) (fun h => absurd h (by decide))
      refine lv_iinc (v := nI (k + 1)) (lv' := [(5, .int (nI (k + 1))), (4, .int x9), (3, .int (nI tm)), (2, .ref (ad10 28)), (1, .ref (ad10 0)), (0, .ref b)]) hx hb dL_law_84 hl (k := 0) rfl (nI_1 _) (by decide) rfl (fun ls hl => ?_)
      refine lv_goto (tgt := 54) hx hb dL_law_87 (by decide) ?_
      refine W.widen (k := cells + 4 * (k + 1)) (n := slots + 20 * (k + 1)) (by omega) (by omega) ?_
      exact ih (k + 1) N10 B10 al10 ad10 H locs ls (by omega) hI10 hW (lv_sub hl [0, 1, 2, 3, 4, 5] rfl)
  exact L54 (3) 0 N B al ad _ _ ls (by omega) hI hW (lv_sub hl [0, 1, 2, 3, 4, 5] rfl)

set_option maxHeartbeats 8000000 in
set_option maxRecDepth 100000 in
theorem lw_S2 {p : Program} (l : Launch) {e : Env} {s : State} {m : MethodId} {args : Array Value} {below : List Frame} {meth : Method} {c : Code} {H : Heap} {locs : List Loc} {cells slots : Nat} {Q : State → Prop} {ls : Array Slot} {D : va_G} {ad a0 cy sa : Nat → Nat} {A : Nat → Prop} {b L N B h n0 tm : Nat} {xs : Nat → Int32} {al : Nat → Nat → Int32} {ex : Nat → va_E} (hfl : l.stackTraces = false) (S : CallFix p m c cL_law 21 s args wsL_law RL) (hE : ZEnv D cy sa A s) (hcb : cells ≤ 100000) (hsb : slots ≤ 200000) (hI : InvT al N B h) (hh3 : h < 2 ^ 20) (hn0 : n0 = 35 + 2 * N + B)  (hW : WS D n0 ad (sW cy ad N B al al ex) A s.heap H locs) (hl : lv_has ls 21 [(3, .int (nI tm)), (2, .ref (ad 28)), (1, .ref (ad 0)), (0, .ref b)]) (kk : ∀ (cl : Nat → Nat → Int32) (ad : Nat → Nat) (H : Heap) (locs : List Loc) (ls : Array Slot), AG cl al → TI cl → WS D (n0 + 3 + N) ad (sW cy ad N B cl al (exH cy ad n0 N (pfx (f1 al) N) (pfx (f2 al) N) (wsP (fT al) N 0) ex)) A s.heap H locs → lv_has ls 21 [(8, .ref (ad (n0 + 2))), (7, .ref (ad (n0 + 1))), (6, .ref (ad n0)), (5, .int (nI N)), (3, .int (nI tm)), (2, .ref (ad 28)), (1, .ref (ad 0)), (0, .ref b)] → W p l e room_1 s m args below meth c H locs (cells + 100) (slots + 300) Q (F0 m 266 ls [])) : W p l e room_1 s m args below meth c H locs cells slots Q (F0 m 90 ls []) := by
  have hx := S.1
  have hb := S.2.1
  have hown := S.2.2.2.1
  have hts := S.2.2.2.2
  have hN := hI.1.1.1
  have hN6 := hI.1.1.2.1
  have hB := hI.1.1.2.2.1
  have hB4 := hI.1.1.2.2.2.1
  have hh := hI.1.1.2.2.2.2
  have f9 := hts (.fieldLink RL 9 "PumiceSledgeLaw$Sim" "sledges" "[LPumiceSledgeLaw$Sledge;") (by decide +kernel)
  have hi4 := inlX4
  have har := hts (.arrayClass .int) (by decide +kernel)
  have k117 := hts (.classLink RL 117 "[[I") (by decide +kernel)
  refine lv_aload_n hx hb dL_law_90 rfl (lv_at hl 1 rfl) ?_
  refine z_get (C := RX4) (T := TX4) (N := 9) (ci := 4) S hE hW hi4 rfl (by omega) sW_28 3 (by decide) rfl f9 (v := .ref (ad 33)) rfl dL_law_91 ?_
  refine z_alenG (t0 := 4) S hE hW (by omega) sW_33 rfl (v := nI N) rfl dL_law_94 ?_
  refine lv_istore (lv' := [(5, .int (nI N)), (3, .int (nI tm)), (2, .ref (ad 28)), (1, .ref (ad 0)), (0, .ref b)]) hx hb dL_law_95 hl (by decide) rfl (fun ls hl => ?_)
  refine lv_iload hx hb dL_law_97 (lv_at hl 0 rfl) ?_
  refine z_newI (M := N) S hE (by omega) hW har rfl (by omega) (Nat.le_trans (m := 600000) (by omega) (Nat.le_of_ble_eq_true rfl)) (Nat.le_trans (m := 600000) (by omega) (Nat.le_of_ble_eq_true rfl)) dL_law_99 (fun ad3 H had3 hW => ?_)
  replace hl : lv_has ls 21 [(5, .int (nI N)), (3, .int (nI tm)), (2, .ref (ad3 28)), (1, .ref (ad3 0)), (0, .ref b)] := by
    rw [had3 28 (by omega), had3 0 (by omega)]; exact hl
  refine lv_astore (lv' := [(6, .ref (ad3 n0)), (5, .int (nI N)), (3, .int (nI tm)), (2, .ref (ad3 28)), (1, .ref (ad3 0)), (0, .ref b)]) hx hb dL_law_101 hl (by decide) rfl (fun ls hl => ?_)
  refine lv_iload hx hb dL_law_103 (lv_at hl 1 rfl) ?_
  refine z_newI (M := N) S hE (by omega) hW har rfl (by omega) (Nat.le_trans (m := 600000) (by omega) (Nat.le_of_ble_eq_true rfl)) (Nat.le_trans (m := 600000) (by omega) (Nat.le_of_ble_eq_true rfl)) dL_law_105 (fun ad4 H had4 hW => ?_)
  replace hl : lv_has ls 21 [(6, .ref (ad4 n0)), (5, .int (nI N)), (3, .int (nI tm)), (2, .ref (ad4 28)), (1, .ref (ad4 0)), (0, .ref b)] := by
    rw [had4 n0 (by omega), had4 28 (by omega), had4 0 (by omega)]; exact hl
  refine lv_astore (lv' := [(7, .ref (ad4 (n0 + 1))), (6, .ref (ad4 n0)), (5, .int (nI N)), (3, .int (nI tm)), (2, .ref (ad4 28)), (1, .ref (ad4 0)), (0, .ref b)]) hx hb dL_law_107 hl (by decide) rfl (fun ls hl => ?_)
  refine lv_iload hx hb dL_law_109 (lv_at hl 2 rfl) ?_
  refine lv_bipush (v := 6) hx hb dL_law_111 (by decide) ?_
  refine z_mna (N := N) S hE hW k117 har rfl (by omega) (Nat.le_trans (m := 600000) (by omega) (Nat.le_of_ble_eq_true rfl)) (Nat.le_trans (m := 600000) (by omega) (Nat.le_of_ble_eq_true rfl)) dL_law_113 (fun ad5 H had5 hW => ?_)
  replace hW := hr_start (F1 := f1 al) (F2 := f2 al) (T := fT al) hn0 had5 hW
  replace hl : lv_has ls 21 [(7, .ref (ad5 (n0 + 1))), (6, .ref (ad5 n0)), (5, .int (nI N)), (3, .int (nI tm)), (2, .ref (ad5 28)), (1, .ref (ad5 0)), (0, .ref b)] := by
    rw [had5 (n0 + 1) (by omega), had5 n0 (by omega), had5 28 (by omega), had5 0 (by omega)]; exact hl
  refine lv_astore (lv' := [(8, .ref (ad5 (n0 + 2))), (7, .ref (ad5 (n0 + 1))), (6, .ref (ad5 n0)), (5, .int (nI N)), (3, .int (nI tm)), (2, .ref (ad5 28)), (1, .ref (ad5 0)), (0, .ref b)]) hx hb dL_law_117 hl (by decide) rfl (fun ls hl => ?_)
  refine lv_iconst (v := 0) hx hb dL_law_119 (by decide) ?_
  refine lv_istore (lv' := [(9, .int 0), (8, .ref (ad5 (n0 + 2))), (7, .ref (ad5 (n0 + 1))), (6, .ref (ad5 n0)), (5, .int (nI N)), (3, .int (nI tm)), (2, .ref (ad5 28)), (1, .ref (ad5 0)), (0, .ref b)]) hx hb dL_law_120 hl (by decide) rfl (fun ls hl => ?_)
  refine W.widen (k := cells + 20) (n := slots + 60) (by omega) (by omega) ?_
  have L122 : ∀ (kq j : Nat) (cl : Nat → Nat → Int32) (H : Heap) (locs : List Loc) (ls : Array Slot), j + kq = N → AG cl al → TI cl → WS D (n0 + 3 + N) ad5 (sW cy ad5 N B cl al (exH cy ad5 n0 N (pfx (f1 al) j) (pfx (f2 al) j) (wsP (fT al) j 0) ex)) A s.heap H locs → lv_has ls 21 [(9, .int (nI j)), (8, .ref (ad5 (n0 + 2))), (7, .ref (ad5 (n0 + 1))), (6, .ref (ad5 n0)), (5, .int (nI N)), (3, .int (nI tm)), (2, .ref (ad5 28)), (1, .ref (ad5 0)), (0, .ref b)] → W p l e room_1 s m args below meth c H locs (cells + 20 + 2 * j) (slots + 60 + 12 * j) Q (F0 m 122 ls []) := by
    intro kq
    induction kq with
    | zero =>
      intro j cl H locs ls hjk hAG hTI hW hl
      have hjN : j = N := by omega
      try rw [hjN] at hW
      try rw [hjN] at hl
      have hIc := AG.inv hI.1 hAG hTI
      refine lv_iload hx hb dL_law_122 (lv_at hl 0 rfl) ?_
      refine lv_iload hx hb dL_law_124 (lv_at hl 4 rfl) ?_
      refine lv_icmp_ge (tgt := 266) hx hb dL_law_126 (by decide) (fun _ => ?_) (fun h => absurd (nI_le (Nat.le_refl _) (by omega)) h)
      refine W.widen (k := cells + 100) (n := slots + 300) (by omega) (by omega) ?_
      exact kk cl ad5 H locs ls hAG hTI hW (lv_sub hl [1, 2, 3, 4, 5, 6, 7, 8] rfl)
    | succ kq ih =>
      intro j cl H locs ls hjk hAG hTI hW hl
      have hj : j < N := by omega
      have hIc := AG.inv hI.1 hAG hTI
      have hb0 := lf_back0 hI.1 hj
      obtain ⟨ab, aa, hba, haa8, hav, haw⟩ := lf_arr hI.1 hI.2.2 hj
      have hle : ¬ al (10 + j) 2 < f2 al j := by show ¬ al (10 + j) 2 < v_arrives al (nI j); rw [hav, haw]; exact nI_nlt hba (by omega)
      refine lv_iload hx hb dL_law_122 (lv_at hl 0 rfl) ?_
      refine lv_iload hx hb dL_law_124 (lv_at hl 4 rfl) ?_
      refine lv_icmp_ge (tgt := 266) hx hb dL_law_126 (by decide) (fun h => absurd h (nI_ge hj (by omega))) (fun _ => ?_)
      refine lv_aload hx hb dL_law_129 (lv_at hl 3 rfl) ?_
      refine lv_iload hx hb dL_law_131 (lv_at hl 0 rfl) ?_
      refine lv_aload_n hx hb dL_law_133 rfl (lv_at hl 7 rfl) ?_
      refine lv_iload hx hb dL_law_134 (lv_at hl 0 rfl) ?_
      refine z_xVi (As := [.int (nI j)]) (rest := [.int (nI j), .ref (ad5 n0)]) (k := 0) S hE hW (cX3_back_ok l D (n0 + 3 + N) ad5 cy sa H.size (by omega) cl (exS cy ad5 N B al (exH cy ad5 n0 N (pfx (f1 al) j) (pfx (f2 al) j) (wsP (fT al) j 0) ex)) (nI j) N hIc.1.1 hIc.1.2.1 h hIc.1.2.2.2.2 (by omega) hIc.ab hfl) (cwV 1 hts gL_law_X3_back rfl rfl rfl (by decide +kernel) ⟨Nat.le_of_ble_eq_true rfl, Nat.le_of_ble_eq_true rfl⟩) (by omega) cC_0 rfl rfl rfl hl.1 rfl (Nat.le_of_ble_eq_true rfl) dL_law_136 ⟨(Nat.le_trans (m := 600000) (by omega) (Nat.le_of_ble_eq_true rfl)), (Nat.le_trans (m := 600000) (by omega) (Nat.le_of_ble_eq_true rfl))⟩ (fun E x9 q9 H locs hbad hW hx9 hv9 hc9 => absurd hbad (zbad_0 (k0_back hIc (by omega)))) (fun r _ H locs hp hW => ?_)
      obtain ⟨-, rfl⟩ := hp
      obtain ⟨cl10, hcl10⟩ : ∃ z, z = u_back cl (nI j) := ⟨_, rfl⟩
      rw [← hcl10] at hW
      have hAG10 : AG cl10 al := by rw [hcl10]; exact (st_back hIc (by omega)).2.tr hAG
      have hTI10 : TI cl10 := by rw [hcl10]; exact (st_back hIc (by omega)).1
      have hIc10 := AG.inv hI.1 hAG10 hTI10
      refine z_top2 (y := f1 al j) (ag_back hAG (by omega)) ?_
      refine z_ast (ce' := sW cy ad5 N B cl10 al (exH cy ad5 n0 N (pfx (f1 al) (j + 1)) (pfx (f2 al) j) (wsP (fT al) j 0) ex)) S hE hW (by omega) ((sW_x (by omega)).trans exH_b) j rfl (by omega) (by omega) ((sW_x (by omega)).trans (exH_b.trans (by rw [← pfx_s]))) (fun k h => sW_ext (exH_bo h)) dL_law_139 (fun H locs hW => ?_)
      refine lv_aload hx hb dL_law_140 (lv_at hl 2 rfl) ?_
      refine lv_iload hx hb dL_law_142 (lv_at hl 0 rfl) ?_
      refine lv_aload_n hx hb dL_law_144 rfl (lv_at hl 7 rfl) ?_
      refine lv_iload hx hb dL_law_145 (lv_at hl 0 rfl) ?_
      refine z_xVi (As := [.int (nI j)]) (rest := [.int (nI j), .ref (ad5 (n0 + 1))]) (k := 0) S hE hW (cX3_arrives_ok l D (n0 + 3 + N) ad5 cy sa H.size (by omega) cl10 (exS cy ad5 N B al (exH cy ad5 n0 N (pfx (f1 al) (j + 1)) (pfx (f2 al) j) (wsP (fT al) j 0) ex)) (nI j) N hIc10.1.1 hIc10.1.2.1 h hIc10.1.2.2.2.2 (by omega) hIc10.ab hfl) (cwV 1 hts gL_law_X3_arrives rfl rfl rfl (by decide +kernel) ⟨Nat.le_of_ble_eq_true rfl, Nat.le_of_ble_eq_true rfl⟩) (by omega) cC_0 rfl rfl rfl hl.1 rfl (Nat.le_of_ble_eq_true rfl) dL_law_147 ⟨(Nat.le_trans (m := 600000) (by omega) (Nat.le_of_ble_eq_true rfl)), (Nat.le_trans (m := 600000) (by omega) (Nat.le_of_ble_eq_true rfl))⟩ (fun E x9 q9 H locs hbad hW hx9 hv9 hc9 => absurd hbad (zbad_0 (k0_arrives hIc10 (by omega)))) (fun r _ H locs hp hW => ?_)
      obtain ⟨-, rfl⟩ := hp
      obtain ⟨cl11, hcl11⟩ : ∃ z, z = u_arrives cl10 (nI j) := ⟨_, rfl⟩
      rw [← hcl11] at hW
      have hAG11 : AG cl11 al := by rw [hcl11]; exact (st_arrives hIc10 (by omega)).2.tr hAG10
      have hTI11 : TI cl11 := by rw [hcl11]; exact (st_arrives hIc10 (by omega)).1
      have hIc11 := AG.inv hI.1 hAG11 hTI11
      refine z_top2 (y := f2 al j) (ag_arr hAG10 hIc10 hI.1 (by omega)) ?_
      refine z_ast (ce' := sW cy ad5 N B cl11 al (exH cy ad5 n0 N (pfx (f1 al) (j + 1)) (pfx (f2 al) (j + 1)) (wsP (fT al) j 0) ex)) S hE hW (by omega) ((sW_x (by omega)).trans exH_a) j rfl (by omega) (by omega) ((sW_x (by omega)).trans (exH_a.trans (by rw [← pfx_s]))) (fun k h => sW_ext (exH_ao h)) dL_law_150 (fun H locs hW => ?_)
      refine lv_iconst (v := 0) hx hb dL_law_151 (by decide) ?_
      refine lv_istore (lv' := [(10, .int 0), (9, .int (nI j)), (8, .ref (ad5 (n0 + 2))), (7, .ref (ad5 (n0 + 1))), (6, .ref (ad5 n0)), (5, .int (nI N)), (3, .int (nI tm)), (2, .ref (ad5 28)), (1, .ref (ad5 0)), (0, .ref b)]) hx hb dL_law_152 hl (by decide) rfl (fun ls hl => ?_)
      have L154 : ∀ (kr q : Nat) (H : Heap) (locs : List Loc) (ls : Array Slot), q + kr = 6 → WS D (n0 + 3 + N) ad5 (sW cy ad5 N B cl11 al (exH cy ad5 n0 N (pfx (f1 al) (j + 1)) (pfx (f2 al) (j + 1)) (wsP (fT al) j q) ex)) A s.heap H locs → lv_has ls 21 [(10, .int (nI q)), (9, .int (nI j)), (8, .ref (ad5 (n0 + 2))), (7, .ref (ad5 (n0 + 1))), (6, .ref (ad5 n0)), (5, .int (nI N)), (3, .int (nI tm)), (2, .ref (ad5 28)), (1, .ref (ad5 0)), (0, .ref b)] → W p l e room_1 s m args below meth c H locs (((cells + 20 + 2 * j) + 1) + 1) (((slots + 60 + 12 * j) + 6) + 6) Q (F0 m 154 ls []) := by
        intro kr
        induction kr with
        | zero =>
          intro q H locs ls hjkq hW hl
          have hjNq : q = 6 := by omega
          try rw [hjNq] at hW
          try rw [hjNq] at hl
          refine lv_iload hx hb dL_law_154 (lv_at hl 0 rfl) ?_
          refine lv_bipush (v := 6) hx hb dL_law_156 (by decide) ?_
          refine lv_icmp_ge (tgt := 183) hx hb dL_law_158 (by decide) (fun _ => ?_) (fun h => absurd (by decide) h)
          refine lv_aload hx hb dL_law_183 (lv_at hl 4 rfl) ?_
          refine lv_iload hx hb dL_law_185 (lv_at hl 1 rfl) ?_
          refine z_ald S hE hW (by omega) ((sW_x (by omega)).trans exH_b) j rfl (by omega) (by omega) (v := f1 al j) ((pfx_at (by omega))) dL_law_187 ?_
          refine lv_if_ne (tgt := 195) hx hb dL_law_188 (by decide) (fun c188 => ?_) (fun c188 => ?_)
          · refine lv_iconst (v := 0) hx hb dL_law_195 (by decide) ?_
            refine lv_aload hx hb dL_law_196 (lv_at hl 2 rfl) ?_
            refine lv_iload hx hb dL_law_198 (lv_at hl 1 rfl) ?_
            refine z_aldA S hE hW (by omega) ((sW_x (by omega)).trans exH_w) j rfl (by omega) (by omega) (v := .ref (ad5 (n0 + 3 + j))) (congrArg va_rf (if_pos hj)) dL_law_200 ?_
            refine lv_iconst (v := 3) hx hb dL_law_201 (by decide) ?_
            refine z_ald S hE hW (by omega) ((sW_x (by omega)).trans (exH_r hj)) 3 rfl (by decide) (by decide) (v := al (10 + j) 4) ((congrFun wsP_j 3).trans ((pfx_at (by decide)).trans (fT_3 (by omega)))) dL_law_202 ?_
            refine lv_if_ne (tgt := 210) hx hb dL_law_203 (by decide) (fun _ => ?_) (fun h => absurd h (fun z => c188 (hb0.mpr z)))
            refine lv_iconst (v := 0) hx hb dL_law_210 (by decide) ?_
            refine lv_icmp_ne (tgt := 258) hx hb dL_law_211 (by decide) (fun h => absurd (by decide) h) (fun _ => ?_)
            refine lv_aload hx hb dL_law_214 (lv_at hl 3 rfl) ?_
            refine lv_iload hx hb dL_law_216 (lv_at hl 1 rfl) ?_
            refine z_ald S hE hW (by omega) ((sW_x (by omega)).trans exH_a) j rfl (by omega) (by omega) (v := f2 al j) ((pfx_at (by omega))) dL_law_218 ?_
            refine lv_aload hx hb dL_law_219 (lv_at hl 2 rfl) ?_
            refine lv_iload hx hb dL_law_221 (lv_at hl 1 rfl) ?_
            refine z_aldA S hE hW (by omega) ((sW_x (by omega)).trans exH_w) j rfl (by omega) (by omega) (v := .ref (ad5 (n0 + 3 + j))) (congrArg va_rf (if_pos hj)) dL_law_223 ?_
            refine lv_iconst (v := 1) hx hb dL_law_224 (by decide) ?_
            refine z_ald S hE hW (by omega) ((sW_x (by omega)).trans (exH_r hj)) 1 rfl (by decide) (by decide) (v := al (10 + j) 2) ((congrFun wsP_j 1).trans ((pfx_at (by decide)).trans (fT_1 (by omega)))) dL_law_225 ?_
            refine lv_icmp_gt (tgt := 258) hx hb dL_law_226 (by decide) (fun h => absurd h hle) (fun _ => ?_)
            refine lv_aload hx hb dL_law_229 (lv_at hl 2 rfl) ?_
            refine lv_iload hx hb dL_law_231 (lv_at hl 1 rfl) ?_
            refine z_aldA S hE hW (by omega) ((sW_x (by omega)).trans exH_w) j rfl (by omega) (by omega) (v := .ref (ad5 (n0 + 3 + j))) (congrArg va_rf (if_pos hj)) dL_law_233 ?_
            refine lv_iconst (v := 3) hx hb dL_law_234 (by decide) ?_
            refine z_ald S hE hW (by omega) ((sW_x (by omega)).trans (exH_r hj)) 3 rfl (by decide) (by decide) (v := al (10 + j) 4) ((congrFun wsP_j 3).trans ((pfx_at (by decide)).trans (fT_3 (by omega)))) dL_law_235 ?_
            refine lv_iconst (v := 2) hx hb dL_law_236 (by decide) ?_
            refine lv_icmp_ne (tgt := 260) hx hb dL_law_237 (by decide) (fun c237 => ?_) (fun c237 => ?_)
            · refine lv_iinc (v := nI (j + 1)) (lv' := [(9, .int (nI (j + 1))), (10, .int (nI 6)), (8, .ref (ad5 (n0 + 2))), (7, .ref (ad5 (n0 + 1))), (6, .ref (ad5 n0)), (5, .int (nI N)), (3, .int (nI tm)), (2, .ref (ad5 28)), (1, .ref (ad5 0)), (0, .ref b)]) hx hb dL_law_260 hl (k := 1) rfl (nI_1 _) (by decide) rfl (fun ls hl => ?_)
              refine lv_goto (tgt := 122) hx hb dL_law_263 (by decide) ?_
              rw [wsP_s] at hW
              refine W.widen (k := cells + 20 + 2 * (j + 1)) (n := slots + 60 + 12 * (j + 1)) (by omega) (by omega) ?_
              exact ih (j + 1) cl11 H locs ls (by omega) hAG11 hTI11 hW (lv_sub hl [0, 2, 3, 4, 5, 6, 7, 8, 9] rfl)
            · obtain ⟨hu1, hu2⟩ := lf_up hI.1 hI.2.2 hj c237
              refine lv_aload hx hb dL_law_240 (lv_at hl 3 rfl) ?_
              refine lv_iload hx hb dL_law_242 (lv_at hl 1 rfl) ?_
              refine z_ald S hE hW (by omega) ((sW_x (by omega)).trans exH_a) j rfl (by omega) (by omega) (v := f2 al j) ((pfx_at (by omega))) dL_law_244 ?_
              refine lv_if_ne (tgt := 258) hx hb dL_law_245 (by decide) (fun h => absurd hu1 h) (fun _ => ?_)
              refine lv_aload hx hb dL_law_248 (lv_at hl 2 rfl) ?_
              refine lv_iload hx hb dL_law_250 (lv_at hl 1 rfl) ?_
              refine z_aldA S hE hW (by omega) ((sW_x (by omega)).trans exH_w) j rfl (by omega) (by omega) (v := .ref (ad5 (n0 + 3 + j))) (congrArg va_rf (if_pos hj)) dL_law_252 ?_
              refine lv_iconst (v := 1) hx hb dL_law_253 (by decide) ?_
              refine z_ald S hE hW (by omega) ((sW_x (by omega)).trans (exH_r hj)) 1 rfl (by decide) (by decide) (v := al (10 + j) 2) ((congrFun wsP_j 1).trans ((pfx_at (by decide)).trans (fT_1 (by omega)))) dL_law_254 ?_
              refine lv_if_eq (tgt := 260) hx hb dL_law_255 (by decide) (fun _ => ?_) (fun h => absurd hu2 h)
              refine lv_iinc (v := nI (j + 1)) (lv' := [(9, .int (nI (j + 1))), (10, .int (nI 6)), (8, .ref (ad5 (n0 + 2))), (7, .ref (ad5 (n0 + 1))), (6, .ref (ad5 n0)), (5, .int (nI N)), (3, .int (nI tm)), (2, .ref (ad5 28)), (1, .ref (ad5 0)), (0, .ref b)]) hx hb dL_law_260 hl (k := 1) rfl (nI_1 _) (by decide) rfl (fun ls hl => ?_)
              refine lv_goto (tgt := 122) hx hb dL_law_263 (by decide) ?_
              rw [wsP_s] at hW
              refine W.widen (k := cells + 20 + 2 * (j + 1)) (n := slots + 60 + 12 * (j + 1)) (by omega) (by omega) ?_
              exact ih (j + 1) cl11 H locs ls (by omega) hAG11 hTI11 hW (lv_sub hl [0, 2, 3, 4, 5, 6, 7, 8, 9] rfl)
          · refine lv_iconst (v := 1) hx hb dL_law_191 (by decide) ?_
            refine lv_goto (tgt := 196) hx hb dL_law_192 (by decide) ?_
            refine lv_aload hx hb dL_law_196 (lv_at hl 2 rfl) ?_
            refine lv_iload hx hb dL_law_198 (lv_at hl 1 rfl) ?_
            refine z_aldA S hE hW (by omega) ((sW_x (by omega)).trans exH_w) j rfl (by omega) (by omega) (v := .ref (ad5 (n0 + 3 + j))) (congrArg va_rf (if_pos hj)) dL_law_200 ?_
            refine lv_iconst (v := 3) hx hb dL_law_201 (by decide) ?_
            refine z_ald S hE hW (by omega) ((sW_x (by omega)).trans (exH_r hj)) 3 rfl (by decide) (by decide) (v := al (10 + j) 4) ((congrFun wsP_j 3).trans ((pfx_at (by decide)).trans (fT_3 (by omega)))) dL_law_202 ?_
            refine lv_if_ne (tgt := 210) hx hb dL_law_203 (by decide) (fun h => absurd (hb0.mp c188) h) (fun _ => ?_)
            refine lv_iconst (v := 1) hx hb dL_law_206 (by decide) ?_
            refine lv_goto (tgt := 211) hx hb dL_law_207 (by decide) ?_
            refine lv_icmp_ne (tgt := 258) hx hb dL_law_211 (by decide) (fun h => absurd (by decide) h) (fun _ => ?_)
            refine lv_aload hx hb dL_law_214 (lv_at hl 3 rfl) ?_
            refine lv_iload hx hb dL_law_216 (lv_at hl 1 rfl) ?_
            refine z_ald S hE hW (by omega) ((sW_x (by omega)).trans exH_a) j rfl (by omega) (by omega) (v := f2 al j) ((pfx_at (by omega))) dL_law_218 ?_
            refine lv_aload hx hb dL_law_219 (lv_at hl 2 rfl) ?_
            refine lv_iload hx hb dL_law_221 (lv_at hl 1 rfl) ?_
            refine z_aldA S hE hW (by omega) ((sW_x (by omega)).trans exH_w) j rfl (by omega) (by omega) (v := .ref (ad5 (n0 + 3 + j))) (congrArg va_rf (if_pos hj)) dL_law_223 ?_
            refine lv_iconst (v := 1) hx hb dL_law_224 (by decide) ?_
            refine z_ald S hE hW (by omega) ((sW_x (by omega)).trans (exH_r hj)) 1 rfl (by decide) (by decide) (v := al (10 + j) 2) ((congrFun wsP_j 1).trans ((pfx_at (by decide)).trans (fT_1 (by omega)))) dL_law_225 ?_
            refine lv_icmp_gt (tgt := 258) hx hb dL_law_226 (by decide) (fun h => absurd h hle) (fun _ => ?_)
            refine lv_aload hx hb dL_law_229 (lv_at hl 2 rfl) ?_
            refine lv_iload hx hb dL_law_231 (lv_at hl 1 rfl) ?_
            refine z_aldA S hE hW (by omega) ((sW_x (by omega)).trans exH_w) j rfl (by omega) (by omega) (v := .ref (ad5 (n0 + 3 + j))) (congrArg va_rf (if_pos hj)) dL_law_233 ?_
            refine lv_iconst (v := 3) hx hb dL_law_234 (by decide) ?_
            refine z_ald S hE hW (by omega) ((sW_x (by omega)).trans (exH_r hj)) 3 rfl (by decide) (by decide) (v := al (10 + j) 4) ((congrFun wsP_j 3).trans ((pfx_at (by decide)).trans (fT_3 (by omega)))) dL_law_235 ?_
            refine lv_iconst (v := 2) hx hb dL_law_236 (by decide) ?_
            refine lv_icmp_ne (tgt := 260) hx hb dL_law_237 (by decide) (fun c237 => ?_) (fun c237 => ?_)
            · refine lv_iinc (v := nI (j + 1)) (lv' := [(9, .int (nI (j + 1))), (10, .int (nI 6)), (8, .ref (ad5 (n0 + 2))), (7, .ref (ad5 (n0 + 1))), (6, .ref (ad5 n0)), (5, .int (nI N)), (3, .int (nI tm)), (2, .ref (ad5 28)), (1, .ref (ad5 0)), (0, .ref b)]) hx hb dL_law_260 hl (k := 1) rfl (nI_1 _) (by decide) rfl (fun ls hl => ?_)
              refine lv_goto (tgt := 122) hx hb dL_law_263 (by decide) ?_
              rw [wsP_s] at hW
              refine W.widen (k := cells + 20 + 2 * (j + 1)) (n := slots + 60 + 12 * (j + 1)) (by omega) (by omega) ?_
              exact ih (j + 1) cl11 H locs ls (by omega) hAG11 hTI11 hW (lv_sub hl [0, 2, 3, 4, 5, 6, 7, 8, 9] rfl)
            · obtain ⟨hu1, hu2⟩ := lf_up hI.1 hI.2.2 hj c237
              refine lv_aload hx hb dL_law_240 (lv_at hl 3 rfl) ?_
              refine lv_iload hx hb dL_law_242 (lv_at hl 1 rfl) ?_
              refine z_ald S hE hW (by omega) ((sW_x (by omega)).trans exH_a) j rfl (by omega) (by omega) (v := f2 al j) ((pfx_at (by omega))) dL_law_244 ?_
              refine lv_if_ne (tgt := 258) hx hb dL_law_245 (by decide) (fun h => absurd hu1 h) (fun _ => ?_)
              refine lv_aload hx hb dL_law_248 (lv_at hl 2 rfl) ?_
              refine lv_iload hx hb dL_law_250 (lv_at hl 1 rfl) ?_
              refine z_aldA S hE hW (by omega) ((sW_x (by omega)).trans exH_w) j rfl (by omega) (by omega) (v := .ref (ad5 (n0 + 3 + j))) (congrArg va_rf (if_pos hj)) dL_law_252 ?_
              refine lv_iconst (v := 1) hx hb dL_law_253 (by decide) ?_
              refine z_ald S hE hW (by omega) ((sW_x (by omega)).trans (exH_r hj)) 1 rfl (by decide) (by decide) (v := al (10 + j) 2) ((congrFun wsP_j 1).trans ((pfx_at (by decide)).trans (fT_1 (by omega)))) dL_law_254 ?_
              refine lv_if_eq (tgt := 260) hx hb dL_law_255 (by decide) (fun _ => ?_) (fun h => absurd hu2 h)
              refine lv_iinc (v := nI (j + 1)) (lv' := [(9, .int (nI (j + 1))), (10, .int (nI 6)), (8, .ref (ad5 (n0 + 2))), (7, .ref (ad5 (n0 + 1))), (6, .ref (ad5 n0)), (5, .int (nI N)), (3, .int (nI tm)), (2, .ref (ad5 28)), (1, .ref (ad5 0)), (0, .ref b)]) hx hb dL_law_260 hl (k := 1) rfl (nI_1 _) (by decide) rfl (fun ls hl => ?_)
              refine lv_goto (tgt := 122) hx hb dL_law_263 (by decide) ?_
              rw [wsP_s] at hW
              refine W.widen (k := cells + 20 + 2 * (j + 1)) (n := slots + 60 + 12 * (j + 1)) (by omega) (by omega) ?_
              exact ih (j + 1) cl11 H locs ls (by omega) hAG11 hTI11 hW (lv_sub hl [0, 2, 3, 4, 5, 6, 7, 8, 9] rfl)
        | succ kr ihq =>
          intro q H locs ls hjkq hW hl
          have hjq : q < 6 := by omega
          refine lv_iload hx hb dL_law_154 (lv_at hl 0 rfl) ?_
          refine lv_bipush (v := 6) hx hb dL_law_156 (by decide) ?_
          refine lv_icmp_ge (tgt := 183) hx hb dL_law_158 (by decide) (fun h => absurd h (nI_ge (b := 6) hjq (by decide))) (fun _ => ?_)
          refine lv_aload hx hb dL_law_161 (lv_at hl 2 rfl) ?_
          refine lv_iload hx hb dL_law_163 (lv_at hl 1 rfl) ?_
          refine z_aldA S hE hW (by omega) ((sW_x (by omega)).trans exH_w) j rfl (by omega) (by omega) (v := .ref (ad5 (n0 + 3 + j))) (congrArg va_rf (if_pos hj)) dL_law_165 ?_
          refine lv_iload hx hb dL_law_166 (lv_at hl 0 rfl) ?_
          refine lv_aload_n hx hb dL_law_168 rfl (lv_at hl 8 rfl) ?_
          refine lv_iload hx hb dL_law_169 (lv_at hl 1 rfl) ?_
          refine lv_iload hx hb dL_law_171 (lv_at hl 0 rfl) ?_
          refine z_cVi (As := [.int (nI j), .int (nI q)]) (rest := [.int (nI q), .ref (ad5 (n0 + 3 + j))]) (k := 0) S hE hW (cX3_told0_ok l D (n0 + 3 + N) ad5 cy sa H.size (by omega) cl11 (exS cy ad5 N B al (exH cy ad5 n0 N (pfx (f1 al) (j + 1)) (pfx (f2 al) (j + 1)) (wsP (fT al) j q) ex)) N hIc11.1.1 hIc11.1.2.1 hIc11.ab j (by omega) q (by omega)) (cwV 2 hts gL_law_X3_told rfl rfl rfl (by decide +kernel) ⟨Nat.le_of_ble_eq_true rfl, Nat.le_of_ble_eq_true rfl⟩) (by omega) cC_0 rfl rfl rfl hl.1 rfl (Nat.le_of_ble_eq_true rfl) dL_law_173 ⟨(Nat.le_trans (m := 600000) (by omega) (Nat.le_of_ble_eq_true rfl)), (Nat.le_trans (m := 600000) (by omega) (Nat.le_of_ble_eq_true rfl))⟩ (fun r _ H locs hp hW => ?_)
          subst hp
          refine z_top2 (y := fT al j q) (ag_told hAG11 (by omega) _) ?_
          refine z_ast (ce' := sW cy ad5 N B cl11 al (exH cy ad5 n0 N (pfx (f1 al) (j + 1)) (pfx (f2 al) (j + 1)) (wsP (fT al) j (q + 1)) ex)) S hE hW (by omega) ((sW_x (by omega)).trans (exH_r hj)) q rfl (by omega) (by omega) ((sW_x (by omega)).trans ((exH_r hj).trans (by rw [wsP_j, wsP_j, ← pfx_s]))) (fun k h => sW_ext (exH_ro (i := j) (fun k hk => (wsP_u hk).symm) h)) dL_law_176 (fun H locs hW => ?_)
          refine lv_iinc (v := nI (q + 1)) (lv' := [(10, .int (nI (q + 1))), (9, .int (nI j)), (8, .ref (ad5 (n0 + 2))), (7, .ref (ad5 (n0 + 1))), (6, .ref (ad5 n0)), (5, .int (nI N)), (3, .int (nI tm)), (2, .ref (ad5 28)), (1, .ref (ad5 0)), (0, .ref b)]) hx hb dL_law_177 hl (k := 0) rfl (nI_1 _) (by decide) rfl (fun ls hl => ?_)
          refine lv_goto (tgt := 154) hx hb dL_law_180 (by decide) ?_
          exact ihq (q + 1) H locs ls (by omega) hW (lv_sub hl [0, 1, 2, 3, 4, 5, 6, 7, 8, 9] rfl)
      exact L154 (6) 0 _ _ ls (by omega) hW (lv_sub hl [0, 1, 2, 3, 4, 5, 6, 7, 8, 9] rfl)
  exact L122 (N) 0 al _ _ ls (by omega) AG.rf hI.1.2.2.1 hW (lv_sub hl [0, 1, 2, 3, 4, 5, 6, 7, 8] rfl)
