/-! A sledge more, a boat more. -/
theorem sW_0f {cy ad : Nat → Nat} {N B : Nat} {al be : Nat → Nat → Int32} {ex : Nat → va_E} {f : Nat} {v : Int32} (h8 : f ≠ 8) (h9 : f ≠ 9) : sW cy ad N B al be ex = sW cy ad N B al (zup be 0 f v) ex :=
  funext fun j => sW_congr (fun _ => by rw [zup_k, up_n (Ne.symm h8), up_n (Ne.symm h9), zup_o (by omega)]; exact ⟨rfl, rfl, rfl⟩) (fun _ => by rw [zup_o (by omega)]) (fun _ => by rw [zup_o (by omega)]) (fun _ => by rw [zup_o (by omega)]) (fun _ => by rw [zup_o (by omega)]) (fun i _ _ => by rw [zup_o (by omega)]; exact ⟨rfl, rfl, rfl⟩) (fun i _ _ => by rw [zup_o (by omega), zup_o (by omega)]; exact ⟨rfl, rfl⟩) (fun b _ _ => by rw [zup_o (by omega)])
theorem k0_build {al : Nat → Nat → Int32} {N o : Nat} (hN : al 0 4 = nI N) (hN6 : N < 6) (ho : 1 ≤ o ∧ o ≤ 8) : k_build al (nI o) = 0 := by
  unfold k_build
  rw [hN, if_neg (fun z => z (zin_nI (lo := 1) (hi := 8) ho.1 ho.2 (by decide))), if_neg (fun z => z (nI_lt (b := 6) hN6 (by decide)))]
theorem k0_launch {al : Nat → Nat → Int32} {B o : Nat} (hB : al 0 6 = nI B) (hB4 : B < 4) (ho : 100 ≤ o ∧ o ≤ 900) : k_launch al (nI o) = 0 := by
  unfold k_launch
  rw [hB, if_neg (fun z => z (zin_nI (lo := 100) (hi := 900) ho.1 ho.2 (by decide))), if_neg (fun z => z (nI_lt (b := 4) hB4 (by decide)))]

set_option maxHeartbeats 8000000 in
set_option maxRecDepth 100000 in
theorem act_build {p : Program} {l : Launch} {e : Env} {s : State} {m : MethodId} {args : Array Value} {below : List Frame} {meth : Method} {c : Code} {D : va_G} {ad cy sa : Nat → Nat} {N B h : Nat} {al : Nat → Nat → Int32} {ex : Nat → va_E} {x : Int32} {H : Heap} {locs : List Loc} {ls : Array Slot} (S : CallFix p m c cL_act 17 s args wsL_act RL) (hE : ZEnv D cy sa (Acc (35 + 2 * N + B) ad s.heap.size) s) (hr : meth.sig.returnType = some .boolean) (hlk : meth.locks = false) (hfl : l.stackTraces = false) (hI : InvT al N B h) (hh3 : h < 2 ^ 20) (hW : WS D (35 + 2 * N + B) ad (sW cy ad N B al al ex) (Acc (35 + 2 * N + B) ad s.heap.size) s.heap H locs) {lq : Nat} (hlq : lq < 5) (hl : lv_has ls 17 [(0, .ref (ad 0)), (1, .ref (ad 28)), (2, .int x), (3, .int (nI N)), (4, .int (nI B)), (5, .int (nI lq))]) : W p l e ({ frames := 7, cells := 4, slots := 20, locals := 144 }) s m args below meth c H locs 0 0 (MQ below (QAct D (35 + 2 * N + B) ad cy s.heap.size h ex) args s 4 20 (Acc (35 + 2 * N + B) ad s.heap.size)) (F0 m 112 ls []) := by
  have hx := S.1
  have hb := S.2.1
  have hown := S.2.2.2.1
  have hts := S.2.2.2.2
  have hN := hI.1.1.1
  have hN6 := hI.1.1.2.1
  have hB := hI.1.1.2.2.1
  have hB4 := hI.1.1.2.2.2.1
  have hab := hI.1.ab
  have k25 := hts (.classLink RL 25 RX5) (by decide +kernel)
  have hi5 : ∀ w ∈ wsX50, w ∈ wsL_act := by decide +kernel
  have ins_X5 := hts (.instantiable RX5 4) (by decide +kernel)
  have in_X5 := hts (.initialized RX5) (by decide +kernel)
  have im_X5i := hts (.instanceMethod yX5_init) (by decide +kernel)
  have f28 := hts (.fieldLink RL 28 "PumiceSledgeLaw$Sledge" "holds" "I") (by decide +kernel)
  have f9 := hts (.fieldLink RL 9 "PumiceSledgeLaw$Sim" "sledges" "[LPumiceSledgeLaw$Sledge;") (by decide +kernel)
  have hi4 : ∀ w ∈ wsX40, w ∈ wsL_act := by decide +kernel
  refine lv_iload_n hx hb dL_act_112 rfl (lv_at hl 3 rfl) ?_
  refine lv_bipush (v := 6) hx hb dL_act_113 (by decide) ?_
  refine lv_icmp_ne (tgt := 120) hx hb dL_act_115 (by decide) (fun c115 => ?_) (fun c115 => ?_)
  · have hN5 : N < 6 := by rcases Nat.lt_or_ge N 6 with q | q; exact q; exact absurd (congrArg nI (show N = 6 by omega)) c115
    obtain ⟨o9, a9, t9, c9, -, hrow9, -, -, -, -, hnew⟩ := hI.1.2.1 N hN5
    obtain ⟨rfl, rfl, rfl⟩ := hnew (Nat.le_refl N)
    have hr2 : al (10 + N) 2 = 0 := hrow9.1
    have hr3 : al (10 + N) 3 = 20 := hrow9.2.1
    have hr4 : al (10 + N) 4 = 0 := hrow9.2.2
    refine lv_iload_n hx hb dL_act_120 rfl (lv_at hl 3 rfl) ?_
    refine lv_iconst (v := 1) hx hb dL_act_121 (by decide) ?_
    refine lv_iadd hx hb dL_act_122 ?_
    refine z_top2 (y := nI (N + 1)) (nI_1 N) ?_
    refine z_newQ (M := (N + 1)) S hE (by omega) hW k25 hE.1.2.2.1.2.2 rfl (by omega) (by dsimp only; omega) (by dsimp only; omega) dL_act_123 (fun ad1 H had1 hW => ?_)
    replace hl : lv_has ls 17 [(0, .ref (ad1 0)), (1, .ref (ad1 28)), (2, .int x), (3, .int (nI N)), (4, .int (nI B)), (5, .int (nI lq))] := by
      rw [had1 0 (by omega), had1 28 (by omega)]; exact hl
    refine lv_astore (lv' := [(7, .ref (ad1 (35 + 2 * N + B))), (0, .ref (ad1 0)), (1, .ref (ad1 28)), (2, .int x), (3, .int (nI N)), (4, .int (nI B)), (5, .int (nI lq))]) hx hb dL_act_126 hl (by decide) rfl (fun ls hl => ?_)
    refine lv_iconst (v := 0) hx hb dL_act_128 (by decide) ?_
    refine lv_istore (lv' := [(8, .int 0), (7, .ref (ad1 (35 + 2 * N + B))), (0, .ref (ad1 0)), (1, .ref (ad1 28)), (2, .int x), (3, .int (nI N)), (4, .int (nI B)), (5, .int (nI lq))]) hx hb dL_act_129 hl (by decide) rfl (fun ls hl => ?_)
    rw [slF_0 (ad := ad1)] at hW
    have L131 : ∀ (kq j : Nat) (H : Heap) (locs : List Loc) (ls : Array Slot), j + kq = N → WS D ((35 + 2 * N + B) + 1) ad1 (sW cy ad1 N B al al (cen ex (35 + 2 * N + B) (.inl (cy 4, (N + 1), .inr (.inr (.inr (.inr (slF ad1 j)))))))) (Acc (35 + 2 * N + B) ad s.heap.size) s.heap H locs → lv_has ls 17 [(8, .int (nI j)), (7, .ref (ad1 (35 + 2 * N + B))), (0, .ref (ad1 0)), (1, .ref (ad1 28)), (2, .int x), (3, .int (nI N)), (4, .int (nI B)), (5, .int (nI lq))] → W p l e ({ frames := 7, cells := 4, slots := 20, locals := 144 }) s m args below meth c H locs ((0 + 1)) ((0 + (N + 1))) (MQ below (QAct D (35 + 2 * N + B) ad cy s.heap.size h ex) args s 4 20 (Acc (35 + 2 * N + B) ad s.heap.size)) (F0 m 131 ls []) := by
      intro kq
      induction kq with
      | zero =>
        intro j H locs ls hjk hW hl
        have hjN : j = N := by omega
        try rw [hjN] at hW
        try rw [hjN] at hl
        refine lv_iload hx hb dL_act_131 (lv_at hl 0 rfl) ?_
        refine lv_iload_n hx hb dL_act_133 rfl (lv_at hl 5 rfl) ?_
        refine lv_icmp_ge (tgt := 155) hx hb dL_act_134 (by decide) (fun _ => ?_) (fun h => absurd (nI_le (Nat.le_refl _) (by omega)) h)
        refine lv_aload hx hb dL_act_155 (lv_at hl 1 rfl) ?_
        refine lv_iload_n hx hb dL_act_157 rfl (lv_at hl 5 rfl) ?_
        refine z_newS (rm := ({ frames := 1, cells := 1, slots := 0, locals := 60 })) S hE (by omega) hW hi5 k25 ins_X5 in_X5 rfl ⟨va_cnB 0 hts gL_act_X5_init_n27 rfl rfl rfl (hE.1.2.1.at 25 rfl) in_X5 (by decide +kernel) ⟨Nat.le_of_ble_eq_true rfl, Nat.le_of_ble_eq_true rfl⟩, rfl, im_X5i⟩ hl.1 (Nat.le_of_ble_eq_true rfl) (by dsimp only; omega) (by dsimp only; omega) dL_act_158 dL_act_161 dL_act_162 (fun ad2 H locs had2 hW => ?_)
        replace hl : lv_has ls 17 [(8, .int (nI N)), (7, .ref (ad2 (35 + 2 * N + B))), (0, .ref (ad2 0)), (1, .ref (ad2 28)), (2, .int x), (3, .int (nI N)), (4, .int (nI B)), (5, .int (nI lq))] := by
          rw [had2 (35 + 2 * N + B) (by omega), had2 0 (by omega), had2 28 (by omega)]; exact hl
        refine z_st (st1 := [.ref (ad2 ((35 + 2 * N + B) + 1)), .int (nI N), .ref (ad2 (35 + 2 * N + B))]) (by rw [← had2 (35 + 2 * N + B) (by omega)]) ?_
        refine z_astq5 (k := (35 + 2 * N + B)) (kv := ((35 + 2 * N + B) + 1)) (ce' := sW cy ad2 N B al al (cen (cen (cen ex (35 + 2 * N + B) (.inl (cy 4, (N + 1), .inr (.inr (.inr (.inr (va_up (slF ad1 N) N (some (ad2 ((35 + 2 * N + B) + 1)))))))))) ((35 + 2 * N + B) + 1) (.inr (5, [.int 0, .int 20, .int 0, .ref (ad2 ((35 + 2 * N + B) + 2))]))) ((35 + 2 * N + B) + 2) (.inl (cy 0, 0, .inl (fun _ => 0))))) S hE hW (by omega) (by omega) ((sW_x (by omega)).trans ((cen_o (by omega)).trans ((cen_o (by omega)).trans cen_k))) ((sW_x (by omega)).trans ((cen_o (by omega)).trans cen_k)) N rfl (by omega) (by omega) ((sW_x (by omega)).trans ((cen_o (by omega)).trans ((cen_o (by omega)).trans cen_k))) (fun j h => sW_ext (cen_cg (cen_cg (cen_oo h)))) dL_act_165 (fun H locs hW => ?_)
        refine lv_aload hx hb dL_act_166 (lv_at hl 1 rfl) ?_
        refine lv_iload_n hx hb dL_act_168 rfl (lv_at hl 5 rfl) ?_
        refine z_aldq (t0 := 4) (C := RX5) S hE hW (by omega) ((sW_x (by omega)).trans ((cen_o (by omega)).trans ((cen_o (by omega)).trans cen_k))) rfl N rfl (by omega) (by omega) (v := .ref (ad2 ((35 + 2 * N + B) + 1))) (by rw [va_up_self]; rfl) dL_act_169 ?_
        refine lv_iconst (v := 1) hx hb dL_act_170 (by decide) ?_
        refine lv_iload_n hx hb dL_act_171 rfl (lv_at hl 4 rfl) ?_
        refine lv_iconst (v := 1) hx hb dL_act_172 (by decide) ?_
        refine lv_ishr hx hb dL_act_173 ?_
        refine lv_bipush (v := 8) hx hb dL_act_174 (by decide) ?_
        refine z_pS (As := [.int (x >>> (1 &&& 31)), .int 8]) (rest := [.int 1, .ref (ad2 ((35 + 2 * N + B) + 1))]) S hE hW (cL_below_ok l (x >>> (1 &&& 31)) 8 (by decide)) (va_cwS 2 hts gL_act_L_below rfl rfl rfl (by decide +kernel) ⟨Nat.le_of_ble_eq_true rfl, Nat.le_of_ble_eq_true rfl⟩) rfl hl.1 rfl (Nat.le_of_ble_eq_true rfl) dL_act_176 ⟨(by dsimp only; omega), (by dsimp only; omega)⟩ (fun H locs hW => ?_)
        obtain ⟨j176, hj176, hbj176⟩ : ∃ j, blw (x >>> (1 &&& 31)) 8 = nI j ∧ j < 8 := ⟨_, blN_e rfl (by decide) (by decide), blN_lt (by decide) (by decide)⟩
        refine z_top2 (y := nI j176) hj176 ?_
        refine lv_iadd hx hb dL_act_179 ?_
        refine z_top2 (y := nI (1 + j176)) (nI_add 1 j176) ?_
        refine z_put (ce' := sW cy ad2 N B al al (cen (cen (cen ex (35 + 2 * N + B) (.inl (cy 4, (N + 1), .inr (.inr (.inr (.inr (va_up (slF ad1 N) N (some (ad2 ((35 + 2 * N + B) + 1)))))))))) ((35 + 2 * N + B) + 1) (.inr (5, [.int (nI (1 + j176)), .int 20, .int 0, .ref (ad2 ((35 + 2 * N + B) + 2))]))) ((35 + 2 * N + B) + 2) (.inl (cy 0, 0, .inl (fun _ => 0))))) (C := RX5) (T := TX5) (N := 4) (ci := 5) S hE hW hi5 tyX5 tyX5_ok nmX5 rfl (by omega) ((sW_x (by omega)).trans ((cen_o (by omega)).trans cen_k)) 0 (by decide) rfl f28 rfl rfl (Nat.le_of_ble_eq_true rfl) ((sW_x (by omega)).trans ((cen_o (by omega)).trans cen_k)) (fun j h => sW_ext (cen_cg (cen_oo h))) dL_act_180 (fun H locs hW => ?_)
        refine lv_aload_n hx hb dL_act_183 rfl (lv_at hl 3 rfl) ?_
        refine lv_aload hx hb dL_act_184 (lv_at hl 1 rfl) ?_
        refine z_putR (ce' := cen (sW cy ad2 N B al al (cen (cen (cen ex (35 + 2 * N + B) (.inl (cy 4, (N + 1), .inr (.inr (.inr (.inr (va_up (slF ad1 N) N (some (ad2 ((35 + 2 * N + B) + 1)))))))))) ((35 + 2 * N + B) + 1) (.inr (5, [.int (nI (1 + j176)), .int 20, .int 0, .ref (ad2 ((35 + 2 * N + B) + 2))]))) ((35 + 2 * N + B) + 2) (.inl (cy 0, 0, .inl (fun _ => 0))))) 28 (.inr (4, [.ref (ad2 29), .ref (ad2 30), .ref (ad2 31), .ref (ad2 (35 + 2 * N + B)), .ref (ad2 34), .ref (ad2 32), .int (al 0 8), .int (al 0 9), .int (al (6 + 0) 1)]))) (C := RX4) (T := TX4) (M := 9) (ci := 4) S hE hW hi4 tyX4 tyX4_ok nmX4 rfl (by omega) sW_28 3 (by decide) rfl f9 rfl rfl rfl (Nat.le_of_ble_eq_true rfl) cen_k (fun j h => cen_o h) dL_act_186 (fun H locs hW => ?_)
        have hW9 := build_re (v := (nI (1 + j176))) hN5 (fun q hq => by rw [va_up_ne _ _ (by omega)]; unfold slF; rw [if_pos hq, had2 (35 + 2 * q) (by omega)]) (va_up_self _ _ _) hr3 hr4 hr2 hW
        obtain ⟨ad3, had3⟩ : ∃ f : Nat → Nat, f = fun k => ad2 (piB N (35 + 2 * N + B) k) := ⟨_, rfl⟩
        rw [← had3] at hW9
        replace hl : lv_has ls 17 [(0, .ref (ad3 0)), (1, .ref (ad3 28)), (2, .int x), (3, .int (nI N)), (7, .ref (ad3 33))] := by
          rw [had3]; show lv_has ls 17 [(0, .ref (ad2 (piB N (35 + 2 * N + B) 0))), (1, .ref (ad2 (piB N (35 + 2 * N + B) 28))), (2, .int x), (3, .int (nI N)), (7, .ref (ad2 (piB N (35 + 2 * N + B) 33)))]
          rw [piB_lo (k := 0) (by omega) (by omega), piB_lo (k := 28) (by omega) (by omega), piB_33]; exact lv_sub hl [2, 3, 4, 5, 1] rfl
        have hW := hW9
        refine lv_aload_n hx hb dL_act_189 rfl (lv_at hl 0 rfl) ?_
        refine lv_aload hx hb dL_act_190 (lv_at hl 4 rfl) ?_
        refine lv_iload_n hx hb dL_act_192 rfl (lv_at hl 3 rfl) ?_
        refine z_aldq (t0 := 4) (C := RX5) S hE hW (by omega) sW_33 rfl N rfl (by omega) (by omega) (v := .ref (ad3 (35 + 2 * N))) rfl dL_act_193 ?_
        refine z_get (C := RX5) (T := TX5) (N := 4) (ci := 5) S hE hW hi5 rfl (by omega) (sW_so (i := N) (Nat.lt_succ_self N)) 0 (by decide) rfl f28 (v := .int (nI (1 + j176))) (congrArg (fun z => some (Value.int z)) ((congrFun zup_k 0).trans up_s)) dL_act_194 ?_
        refine z_xVi (As := [.int (nI (1 + j176))]) (rest := []) (k := 0) S hE hW (cX3_build_ok l D (35 + 2 * (N + 1) + B) ad3 cy sa H.size (by omega) al (exS cy ad3 (N + 1) B (zup al (10 + N) 0 (nI (1 + j176))) ex) (nI (1 + j176)) N hN hN6 hfl) (cwV 1 hts gL_act_X3_build rfl rfl rfl (by decide +kernel) ⟨Nat.le_of_ble_eq_true rfl, Nat.le_of_ble_eq_true rfl⟩) (by omega) cC_0 rfl rfl rfl hl.1 rfl (Nat.le_of_ble_eq_true rfl) dL_act_197 ⟨(by dsimp only; omega), (by dsimp only; omega)⟩ (fun E x9 q9 H locs hbad hW hx9 hv9 hc9 => absurd hbad (zbad_0 (k0_build hN hN5 ⟨by omega, by omega⟩))) (fun r _ H locs hp hW => ?_)
        obtain ⟨-, rfl⟩ := hp
        rw [(show u_build al (nI (1 + j176)) = zup (zup al (10 + N) 0 (nI (1 + j176))) 0 4 (nI (N + 1)) from by unfold u_build; rw [hN, ix_nI (show N < 2 ^ 31 by omega), nI_1])] at hW
        refine z_top2 (y := nI N) (by unfold v_build; rw [hN, nI_1, nI_pred]) ?_
        refine lv_iload_n hx hb dL_act_200 rfl (lv_at hl 3 rfl) ?_
        refine lv_icmp_ne (tgt := 208) hx hb dL_act_201 (by decide) (fun h => absurd rfl h) (fun _ => ?_)
        refine lv_iconst (v := 1) hx hb dL_act_204 (by decide) ?_
        refine lv_goto (tgt := 209) hx hb dL_act_205 (by decide) ?_
        exact zg_z S hW hr hlk (ad3, (zup (zup al (10 + N) 0 (nI (1 + j176))) 0 4 (nI (N + 1))), (N + 1), B) (congrArg (wL _ _) (sW_0f (by decide) (by decide))) (Or.inr rfl) ⟨rfl, hI.build hN5 (by omega), (((congrFun had3 0).trans (congrArg ad2 (piB_lo (by omega) (by omega))))).trans (((had2 0 (by omega))).trans ((had1 0 (by omega)))), (((congrFun had3 28).trans (congrArg ad2 (piB_lo (by omega) (by omega))))).trans (((had2 28 (by omega))).trans ((had1 28 (by omega))))⟩ (by omega) (by omega) dL_act_209
      | succ kq ih =>
        intro j H locs ls hjk hW hl
        have hj : j < N := by omega
        refine lv_iload hx hb dL_act_131 (lv_at hl 0 rfl) ?_
        refine lv_iload_n hx hb dL_act_133 rfl (lv_at hl 5 rfl) ?_
        refine lv_icmp_ge (tgt := 155) hx hb dL_act_134 (by decide) (fun h => absurd h (nI_ge hj (by omega))) (fun _ => ?_)
        refine lv_aload hx hb dL_act_137 (lv_at hl 1 rfl) ?_
        refine lv_iload hx hb dL_act_139 (lv_at hl 0 rfl) ?_
        refine lv_aload_n hx hb dL_act_141 rfl (lv_at hl 3 rfl) ?_
        refine z_get (C := RX4) (T := TX4) (N := 9) (ci := 4) S hE hW hi4 rfl (by omega) sW_28 3 (by decide) rfl f9 (v := .ref (ad1 33)) rfl dL_act_142 ?_
        refine lv_iload hx hb dL_act_145 (lv_at hl 0 rfl) ?_
        refine z_aldq (t0 := 4) (C := RX5) S hE hW (by omega) sW_33 rfl j rfl (by omega) (by omega) (v := .ref (ad1 (35 + 2 * j))) rfl dL_act_147 ?_
        refine z_astq5 (k := (35 + 2 * N + B)) (kv := (35 + 2 * j)) (ce' := sW cy ad1 N B al al (cen ex (35 + 2 * N + B) (.inl (cy 4, (N + 1), .inr (.inr (.inr (.inr (va_up (slF ad1 j) j (some (ad1 (35 + 2 * j))))))))))) S hE hW (by omega) (by omega) ((sW_x (by omega)).trans cen_k) (sW_so (i := j) hj) j rfl (by omega) (by omega) ((sW_x (by omega)).trans cen_k) (fun j h => sW_ext (cen_oo h)) dL_act_148 (fun H locs hW => ?_)
        refine lv_iinc (v := nI (j + 1)) (lv' := [(8, .int (nI (j + 1))), (7, .ref (ad1 (35 + 2 * N + B))), (0, .ref (ad1 0)), (1, .ref (ad1 28)), (2, .int x), (3, .int (nI N)), (4, .int (nI B)), (5, .int (nI lq))]) hx hb dL_act_149 hl (k := 0) rfl (nI_1 _) (by decide) rfl (fun ls hl => ?_)
        refine lv_goto (tgt := 131) hx hb dL_act_152 (by decide) ?_
        rw [slF_s] at hW
        exact ih (j + 1) H locs ls (by omega) hW (lv_sub hl [0, 1, 2, 3, 4, 5, 6, 7] rfl)
    exact L131 (N) 0 _ _ ls (by omega) hW (lv_sub hl [0, 1, 2, 3, 4, 5, 6, 7] rfl)
  · refine lv_iconst (v := 1) hx hb dL_act_118 (by decide) ?_
    exact zg_z S hW hr hlk (ad, al, N, B) rfl (Or.inr rfl) ⟨rfl, hI, rfl, rfl⟩ (by omega) (by omega) dL_act_119

set_option maxHeartbeats 8000000 in
set_option maxRecDepth 100000 in
theorem act_launch {p : Program} {l : Launch} {e : Env} {s : State} {m : MethodId} {args : Array Value} {below : List Frame} {meth : Method} {c : Code} {D : va_G} {ad cy sa : Nat → Nat} {N B h : Nat} {al : Nat → Nat → Int32} {ex : Nat → va_E} {x : Int32} {H : Heap} {locs : List Loc} {ls : Array Slot} (S : CallFix p m c cL_act 17 s args wsL_act RL) (hE : ZEnv D cy sa (Acc (35 + 2 * N + B) ad s.heap.size) s) (hr : meth.sig.returnType = some .boolean) (hlk : meth.locks = false) (hfl : l.stackTraces = false) (hI : InvT al N B h) (hh3 : h < 2 ^ 20) (hW : WS D (35 + 2 * N + B) ad (sW cy ad N B al al ex) (Acc (35 + 2 * N + B) ad s.heap.size) s.heap H locs) {lq : Nat} (hlq : lq < 5) (hl : lv_has ls 17 [(0, .ref (ad 0)), (1, .ref (ad 28)), (2, .int x), (3, .int (nI N)), (4, .int (nI B)), (5, .int (nI lq))]) : W p l e ({ frames := 7, cells := 4, slots := 20, locals := 144 }) s m args below meth c H locs 0 0 (MQ below (QAct D (35 + 2 * N + B) ad cy s.heap.size h ex) args s 4 20 (Acc (35 + 2 * N + B) ad s.heap.size)) (F0 m 210 ls []) := by
  have hx := S.1
  have hb := S.2.1
  have hown := S.2.2.2.1
  have hts := S.2.2.2.2
  have hN := hI.1.1.1
  have hN6 := hI.1.1.2.1
  have hB := hI.1.1.2.2.1
  have hB4 := hI.1.1.2.2.2.1
  have hab := hI.1.ab
  have k38 := hts (.classLink RL 38 "[I") (by decide +kernel)
  have har := hts (.arrayClass .int) (by decide +kernel)
  have f15 := hts (.fieldLink RL 15 "PumiceSledgeLaw$Sim" "boats" "[[I") (by decide +kernel)
  have hi4 : ∀ w ∈ wsX40, w ∈ wsL_act := by decide +kernel
  refine lv_iload hx hb dL_act_210 (lv_at hl 4 rfl) ?_
  refine lv_iconst (v := 4) hx hb dL_act_212 (by decide) ?_
  refine lv_icmp_ne (tgt := 218) hx hb dL_act_213 (by decide) (fun c213 => ?_) (fun c213 => ?_)
  · have hB5 : B < 4 := by rcases Nat.lt_or_ge B 4 with q | q; exact q; exact absurd (congrArg nI (show B = 4 by omega)) c213
    obtain ⟨L9, f9, t9, -, hf9, ht9, -, hnew⟩ := hI.2.1 B hB5
    obtain ⟨rfl, rfl⟩ := hnew (Nat.le_refl B)
    have hr1 : al (24 + B) 1 = 0 := hf9
    have hr2 : al (24 + B) 2 = 0 := ht9
    refine lv_iload hx hb dL_act_218 (lv_at hl 4 rfl) ?_
    refine lv_iconst (v := 1) hx hb dL_act_220 (by decide) ?_
    refine lv_iadd hx hb dL_act_221 ?_
    refine z_top2 (y := nI (B + 1)) (nI_1 B) ?_
    refine z_newAS (M := (B + 1)) S hE (by omega) hW k38 rfl (by omega) (by dsimp only; omega) (by dsimp only; omega) dL_act_222 (fun ad1 H had1 hW => ?_)
    replace hl : lv_has ls 17 [(0, .ref (ad1 0)), (1, .ref (ad1 28)), (2, .int x), (3, .int (nI N)), (4, .int (nI B)), (5, .int (nI lq))] := by
      rw [had1 0 (by omega), had1 28 (by omega)]; exact hl
    refine lv_astore (lv' := [(8, .ref (ad1 (35 + 2 * N + B))), (0, .ref (ad1 0)), (1, .ref (ad1 28)), (2, .int x), (3, .int (nI N)), (4, .int (nI B)), (5, .int (nI lq))]) hx hb dL_act_225 hl (by decide) rfl (fun ls hl => ?_)
    refine lv_iconst (v := 0) hx hb dL_act_227 (by decide) ?_
    refine lv_istore (lv' := [(9, .int 0), (8, .ref (ad1 (35 + 2 * N + B))), (0, .ref (ad1 0)), (1, .ref (ad1 28)), (2, .int x), (3, .int (nI N)), (4, .int (nI B)), (5, .int (nI lq))]) hx hb dL_act_228 hl (by decide) rfl (fun ls hl => ?_)
    rw [blF_0 (ad := ad1) (N := N)] at hW
    have L230 : ∀ (kq j : Nat) (H : Heap) (locs : List Loc) (ls : Array Slot), j + kq = B → WS D ((35 + 2 * N + B) + 1) ad1 (sW cy ad1 N B al al (cen ex (35 + 2 * N + B) (.inl (cy 3, (B + 1), .inr (.inr (.inr (.inr (blF ad1 N j)))))))) (Acc (35 + 2 * N + B) ad s.heap.size) s.heap H locs → lv_has ls 17 [(9, .int (nI j)), (8, .ref (ad1 (35 + 2 * N + B))), (0, .ref (ad1 0)), (1, .ref (ad1 28)), (2, .int x), (3, .int (nI N)), (4, .int (nI B)), (5, .int (nI lq))] → W p l e ({ frames := 7, cells := 4, slots := 20, locals := 144 }) s m args below meth c H locs ((0 + 1)) ((0 + (B + 1))) (MQ below (QAct D (35 + 2 * N + B) ad cy s.heap.size h ex) args s 4 20 (Acc (35 + 2 * N + B) ad s.heap.size)) (F0 m 230 ls []) := by
      intro kq
      induction kq with
      | zero =>
        intro j H locs ls hjk hW hl
        have hjN : j = B := by omega
        try rw [hjN] at hW
        try rw [hjN] at hl
        refine lv_iload hx hb dL_act_230 (lv_at hl 0 rfl) ?_
        refine lv_iload hx hb dL_act_232 (lv_at hl 6 rfl) ?_
        refine lv_icmp_ge (tgt := 255) hx hb dL_act_234 (by decide) (fun _ => ?_) (fun h => absurd (nI_le (Nat.le_refl _) (by omega)) h)
        refine lv_aload hx hb dL_act_255 (lv_at hl 1 rfl) ?_
        refine lv_iload hx hb dL_act_257 (lv_at hl 6 rfl) ?_
        refine lv_iconst (v := 3) hx hb dL_act_259 (by decide) ?_
        refine z_newI (M := 3) S hE (by omega) hW har rfl (by decide) (by dsimp only; omega) (by dsimp only; omega) dL_act_260 (fun ad2 H had2 hW => ?_)
        replace hl : lv_has ls 17 [(9, .int (nI B)), (8, .ref (ad2 (35 + 2 * N + B))), (0, .ref (ad2 0)), (1, .ref (ad2 28)), (2, .int x), (3, .int (nI N)), (4, .int (nI B)), (5, .int (nI lq))] := by
          rw [had2 (35 + 2 * N + B) (by omega), had2 0 (by omega), had2 28 (by omega)]; exact hl
        refine z_st (st1 := [.ref (ad2 ((35 + 2 * N + B) + 1)), .int (nI B), .ref (ad2 (35 + 2 * N + B))]) (by rw [← had2 (35 + 2 * N + B) (by omega)]) ?_
        refine lv_dup hx hb dL_act_262 rfl ?_
        refine lv_iconst (v := 0) hx hb dL_act_263 (by decide) ?_
        refine lv_bipush (v := 100) hx hb dL_act_264 (by decide) ?_
        refine lv_iload_n hx hb dL_act_266 rfl (lv_at hl 4 rfl) ?_
        refine lv_sipush (v := 801) hx hb dL_act_267 (by decide) ?_
        refine z_pS (As := [.int x, .int 801]) (rest := [.int 100, .int 0, .ref (ad2 ((35 + 2 * N + B) + 1)), .ref (ad2 ((35 + 2 * N + B) + 1)), .int (nI B), .ref (ad2 (35 + 2 * N + B))]) S hE hW (cL_below_ok l x 801 (by decide)) (va_cwS 2 hts gL_act_L_below rfl rfl rfl (by decide +kernel) ⟨Nat.le_of_ble_eq_true rfl, Nat.le_of_ble_eq_true rfl⟩) rfl hl.1 rfl (Nat.le_of_ble_eq_true rfl) dL_act_270 ⟨(by dsimp only; omega), (by dsimp only; omega)⟩ (fun H locs hW => ?_)
        obtain ⟨j270, hj270, hbj270⟩ : ∃ j, blw x 801 = nI j ∧ j < 801 := ⟨_, blN_e rfl (by decide) (by decide), blN_lt (by decide) (by decide)⟩
        refine z_top2 (y := nI j270) hj270 ?_
        refine lv_iadd hx hb dL_act_273 ?_
        refine z_top2 (y := nI (100 + j270)) (nI_add 100 j270) ?_
        refine z_ast (ce' := sW cy ad2 N B al al (cen (cen ex (35 + 2 * N + B) (.inl (cy 3, (B + 1), .inr (.inr (.inr (.inr (blF ad1 N B))))))) ((35 + 2 * N + B) + 1) (.inl (cy 0, 3, .inl (upd (fun _ => 0) 0 (nI (100 + j270))))))) S hE hW (by omega) ((sW_x (by omega)).trans cen_k) 0 rfl (by decide) (by decide) ((sW_x (by omega)).trans cen_k) (fun j h => sW_ext (cen_oo h)) dL_act_274 (fun H locs hW => ?_)
        refine lv_dup hx hb dL_act_275 rfl ?_
        refine lv_iconst (v := 1) hx hb dL_act_276 (by decide) ?_
        refine lv_iconst (v := 0) hx hb dL_act_277 (by decide) ?_
        refine z_ast (ce' := sW cy ad2 N B al al (cen (cen ex (35 + 2 * N + B) (.inl (cy 3, (B + 1), .inr (.inr (.inr (.inr (blF ad1 N B))))))) ((35 + 2 * N + B) + 1) (.inl (cy 0, 3, .inl (upd (upd (fun _ => 0) 0 (nI (100 + j270))) 1 0))))) S hE hW (by omega) ((sW_x (by omega)).trans cen_k) 1 rfl (by decide) (by decide) ((sW_x (by omega)).trans cen_k) (fun j h => sW_ext (cen_oo h)) dL_act_278 (fun H locs hW => ?_)
        refine lv_dup hx hb dL_act_279 rfl ?_
        refine lv_iconst (v := 2) hx hb dL_act_280 (by decide) ?_
        refine lv_iconst (v := 0) hx hb dL_act_281 (by decide) ?_
        refine z_ast (ce' := sW cy ad2 N B al al (cen (cen ex (35 + 2 * N + B) (.inl (cy 3, (B + 1), .inr (.inr (.inr (.inr (blF ad1 N B))))))) ((35 + 2 * N + B) + 1) (.inl (cy 0, 3, .inl (upd (upd (upd (fun _ => 0) 0 (nI (100 + j270))) 1 0) 2 0))))) S hE hW (by omega) ((sW_x (by omega)).trans cen_k) 2 rfl (by decide) (by decide) ((sW_x (by omega)).trans cen_k) (fun j h => sW_ext (cen_oo h)) dL_act_282 (fun H locs hW => ?_)
        refine z_astA (k := (35 + 2 * N + B)) (kv := ((35 + 2 * N + B) + 1)) (ce' := sW cy ad2 N B al al (cen (cen ex (35 + 2 * N + B) (.inl (cy 3, (B + 1), .inr (.inr (.inr (.inr (va_up (blF ad1 N B) B (some (ad2 ((35 + 2 * N + B) + 1)))))))))) ((35 + 2 * N + B) + 1) (.inl (cy 0, 3, .inl (upd (upd (upd (fun _ => 0) 0 (nI (100 + j270))) 1 0) 2 0))))) S hE hW (by omega) (by omega) ((sW_x (by omega)).trans ((cen_o (by omega)).trans cen_k)) ((sW_x (by omega)).trans cen_k) B rfl (by omega) (by omega) ((sW_x (by omega)).trans ((cen_o (by omega)).trans cen_k)) (fun j h => sW_ext (cen_cg (cen_oo h))) dL_act_283 (fun H locs hW => ?_)
        refine lv_aload_n hx hb dL_act_284 rfl (lv_at hl 3 rfl) ?_
        refine lv_aload hx hb dL_act_285 (lv_at hl 1 rfl) ?_
        refine z_putR (ce' := cen (sW cy ad2 N B al al (cen (cen ex (35 + 2 * N + B) (.inl (cy 3, (B + 1), .inr (.inr (.inr (.inr (va_up (blF ad1 N B) B (some (ad2 ((35 + 2 * N + B) + 1)))))))))) ((35 + 2 * N + B) + 1) (.inl (cy 0, 3, .inl (upd (upd (upd (fun _ => 0) 0 (nI (100 + j270))) 1 0) 2 0))))) 28 (.inr (4, [.ref (ad2 29), .ref (ad2 30), .ref (ad2 31), .ref (ad2 33), .ref (ad2 (35 + 2 * N + B)), .ref (ad2 32), .int (al 0 8), .int (al 0 9), .int (al (6 + 0) 1)]))) (C := RX4) (T := TX4) (M := 9) (ci := 4) S hE hW hi4 tyX4 tyX4_ok nmX4 rfl (by omega) sW_28 4 (by decide) rfl f15 rfl rfl rfl (Nat.le_of_ble_eq_true rfl) cen_k (fun j h => cen_o h) dL_act_287 (fun H locs hW => ?_)
        have hW9 := launch_re (v := (nI (100 + j270))) hN6 (fun q hq => by rw [va_up_ne _ _ (by omega)]; unfold blF; rw [if_pos hq, had2 (35 + 2 * N + q) (by omega)]) (va_up_self _ _ _) (fun q hq => by rcases (show q = 0 ∨ q = 1 ∨ q = 2 by omega) with rfl | rfl | rfl; exact ((congrFun zup_k 0).trans up_s).symm; exact ((congrFun zup_k 1).trans ((up_n (by decide)).trans hr1)).symm; exact ((congrFun zup_k 2).trans ((up_n (by decide)).trans hr2)).symm) hW
        obtain ⟨ad3, had3⟩ : ∃ f : Nat → Nat, f = fun k => ad2 (piL (35 + 2 * N + B) k) := ⟨_, rfl⟩
        rw [← had3] at hW9
        replace hl : lv_has ls 17 [(0, .ref (ad3 0)), (1, .ref (ad3 28)), (2, .int x), (4, .int (nI B)), (8, .ref (ad3 34))] := by
          rw [had3]; show lv_has ls 17 [(0, .ref (ad2 (piL (35 + 2 * N + B) 0))), (1, .ref (ad2 (piL (35 + 2 * N + B) 28))), (2, .int x), (4, .int (nI B)), (8, .ref (ad2 (piL (35 + 2 * N + B) 34)))]
          rw [piL_lo (k := 0) (by omega) (by omega), piL_lo (k := 28) (by omega) (by omega), piL_34]; exact lv_sub hl [2, 3, 4, 6, 1] rfl
        have hW := hW9
        refine lv_aload_n hx hb dL_act_290 rfl (lv_at hl 0 rfl) ?_
        refine lv_aload hx hb dL_act_291 (lv_at hl 4 rfl) ?_
        refine lv_iload hx hb dL_act_293 (lv_at hl 3 rfl) ?_
        refine z_aldA S hE hW (by omega) sW_34 B rfl (by omega) (by omega) (v := .ref (ad3 (35 + 2 * N + B))) rfl dL_act_295 ?_
        refine lv_iconst (v := 0) hx hb dL_act_296 (by decide) ?_
        refine z_ald S hE hW (by omega) (sW_bb (b := B) (Nat.lt_succ_self B)) 0 rfl (by decide) (by decide) (v := nI (100 + j270)) ((congrFun zup_k 0).trans up_s) dL_act_297 ?_
        refine z_xVi (As := [.int (nI (100 + j270))]) (rest := []) (k := 0) S hE hW (cX3_launch_ok l D (35 + 2 * N + (B + 1)) ad3 cy sa H.size (by omega) al (exS cy ad3 N (B + 1) (zup al (24 + B) 0 (nI (100 + j270))) ex) (nI (100 + j270)) B hB hB4 hfl) (cwV 1 hts gL_act_X3_launch rfl rfl rfl (by decide +kernel) ⟨Nat.le_of_ble_eq_true rfl, Nat.le_of_ble_eq_true rfl⟩) (by omega) cC_0 rfl rfl rfl hl.1 rfl (Nat.le_of_ble_eq_true rfl) dL_act_298 ⟨(by dsimp only; omega), (by dsimp only; omega)⟩ (fun E x9 q9 H locs hbad hW hx9 hv9 hc9 => absurd hbad (zbad_0 (k0_launch hB hB5 ⟨by omega, by omega⟩))) (fun r _ H locs hp hW => ?_)
        obtain ⟨-, rfl⟩ := hp
        rw [(show u_launch al (nI (100 + j270)) = zup (zup al (24 + B) 0 (nI (100 + j270))) 0 6 (nI (B + 1)) from by unfold u_launch; rw [hB, ix_nI (show B < 2 ^ 31 by omega), nI_1])] at hW
        refine z_top2 (y := nI B) (by unfold v_launch; rw [hB, nI_1, nI_pred]) ?_
        refine lv_iload hx hb dL_act_301 (lv_at hl 3 rfl) ?_
        refine lv_icmp_ne (tgt := 310) hx hb dL_act_303 (by decide) (fun h => absurd rfl h) (fun _ => ?_)
        refine lv_iconst (v := 1) hx hb dL_act_306 (by decide) ?_
        refine lv_goto (tgt := 311) hx hb dL_act_307 (by decide) ?_
        exact zg_z S hW hr hlk (ad3, (zup (zup al (24 + B) 0 (nI (100 + j270))) 0 6 (nI (B + 1))), N, (B + 1)) (congrArg (wL _ _) (sW_0f (by decide) (by decide))) (Or.inr rfl) ⟨rfl, hI.launch hB5 (by omega), (((congrFun had3 0).trans (congrArg ad2 (piL_lo (by omega) (by omega))))).trans (((had2 0 (by omega))).trans ((had1 0 (by omega)))), (((congrFun had3 28).trans (congrArg ad2 (piL_lo (by omega) (by omega))))).trans (((had2 28 (by omega))).trans ((had1 28 (by omega))))⟩ (by omega) (by omega) dL_act_311
      | succ kq ih =>
        intro j H locs ls hjk hW hl
        have hj : j < B := by omega
        refine lv_iload hx hb dL_act_230 (lv_at hl 0 rfl) ?_
        refine lv_iload hx hb dL_act_232 (lv_at hl 6 rfl) ?_
        refine lv_icmp_ge (tgt := 255) hx hb dL_act_234 (by decide) (fun h => absurd h (nI_ge hj (by omega))) (fun _ => ?_)
        refine lv_aload hx hb dL_act_237 (lv_at hl 1 rfl) ?_
        refine lv_iload hx hb dL_act_239 (lv_at hl 0 rfl) ?_
        refine lv_aload_n hx hb dL_act_241 rfl (lv_at hl 3 rfl) ?_
        refine z_get (C := RX4) (T := TX4) (N := 9) (ci := 4) S hE hW hi4 rfl (by omega) sW_28 4 (by decide) rfl f15 (v := .ref (ad1 34)) rfl dL_act_242 ?_
        refine lv_iload hx hb dL_act_245 (lv_at hl 0 rfl) ?_
        refine z_aldA S hE hW (by omega) sW_34 j rfl (by omega) (by omega) (v := .ref (ad1 (35 + 2 * N + j))) rfl dL_act_247 ?_
        refine z_astA (k := (35 + 2 * N + B)) (kv := (35 + 2 * N + j)) (ce' := sW cy ad1 N B al al (cen ex (35 + 2 * N + B) (.inl (cy 3, (B + 1), .inr (.inr (.inr (.inr (va_up (blF ad1 N j) j (some (ad1 (35 + 2 * N + j))))))))))) S hE hW (by omega) (by omega) ((sW_x (by omega)).trans cen_k) (sW_bb (b := j) hj) j rfl (by omega) (by omega) ((sW_x (by omega)).trans cen_k) (fun j h => sW_ext (cen_oo h)) dL_act_248 (fun H locs hW => ?_)
        refine lv_iinc (v := nI (j + 1)) (lv' := [(9, .int (nI (j + 1))), (8, .ref (ad1 (35 + 2 * N + B))), (0, .ref (ad1 0)), (1, .ref (ad1 28)), (2, .int x), (3, .int (nI N)), (4, .int (nI B)), (5, .int (nI lq))]) hx hb dL_act_249 hl (k := 0) rfl (nI_1 _) (by decide) rfl (fun ls hl => ?_)
        refine lv_goto (tgt := 230) hx hb dL_act_252 (by decide) ?_
        rw [blF_s] at hW
        exact ih (j + 1) H locs ls (by omega) hW (lv_sub hl [0, 1, 2, 3, 4, 5, 6, 7] rfl)
    exact L230 (B) 0 _ _ ls (by omega) hW (lv_sub hl [0, 1, 2, 3, 4, 5, 6, 7] rfl)
  · refine lv_iconst (v := 1) hx hb dL_act_216 (by decide) ?_
    exact zg_z S hW hr hlk (ad, al, N, B) rfl (Or.inr rfl) ⟨rfl, hI, rfl, rfl⟩ (by omega) (by omega) dL_act_217
