/-! What the law does by its choices: each of them, over the class and the slope by hand. -/
abbrev QAct (D : va_G) (n : Nat) (ad cy : Nat → Nat) (sz h : Nat) (ex : Nat → va_E) : Array Value → State → Outcome → State → Prop := QGi D n ad sz (fun r (u : (Nat → Nat) × (Nat → Nat → Int32) × Nat × Nat) => r = 1 ∧ InvT u.2.1 u.2.2.1 u.2.2.2 h ∧ u.1 0 = ad 0 ∧ u.1 28 = ad 28) (fun u => wL (35 + 2 * u.2.2.1 + u.2.2.2) u.1 (sW cy u.1 u.2.2.1 u.2.2.2 u.2.1 u.2.1 ex))
theorem zin_nI {a lo hi : Nat} (h1 : lo ≤ a) (h2 : a ≤ hi) (h3 : hi < 2 ^ 31) : zIn (nI a) (nI lo) (nI hi) := ⟨nI_nlt h1 (by omega), nI_nlt h2 h3⟩
theorem k0_set {al : Nat → Nat → Int32} {q a b : Nat} (hq : q < 5) (ha : a ≤ 500) (hb : 1 ≤ b ∧ b ≤ 9) : k_set al (nI q) (nI a) (nI b) = 0 := by
  unfold k_set
  rw [if_neg (fun z => z (zin_nI (lo := 0) (hi := 4) (by omega) (by omega) (by decide))), if_neg (fun z => z (zin_nI (lo := 0) (hi := 500) (by omega) ha (by decide))), if_neg (fun z => z (zin_nI (lo := 1) (hi := 9) hb.1 hb.2 (by decide)))]
theorem k0_setGust {al : Nat → Nat → Int32} {q a : Nat} (hq : q < 8) (ha : a < 10) : k_setGust al (nI q) (nI a) = 0 := by
  unfold k_setGust
  rw [if_neg (fun z => z (zin_nI (lo := 0) (hi := 7) (by omega) (by omega) (by decide))), if_neg (fun z => z (zin_nI (lo := 0) (hi := 9) (by omega) (by omega) (by decide)))]
theorem nI_off {i N : Nat} (h : i < N) (hN : N < 2 ^ 31) : ¬ nI i < 0 ∧ ¬ nI N ≤ nI i := ⟨nI_pos (by omega), nI_ge h hN⟩
theorem k0_go {al : Nat → Nat → Int32} {i N : Nat} (hN : al 0 4 = nI N) (hN6 : N ≤ 6) (hi : i < N) (hw : al (10 + i) 4 = 0) : k_go al (nI i) = 0 := by
  unfold k_go
  rw [hN, ix_nI (show i < 2 ^ 31 by omega), if_neg (fun z => z (nI_off hi (by omega))), if_neg (fun z => z hw)]
theorem k0_fill {al : Nat → Nat → Int32} {i q N a o : Nat} (hN : al 0 4 = nI N) (hN6 : N ≤ 6) (hi : i < N) (hq : q < 5) (hw : al (10 + i) 4 = 0) (ha : al (10 + i) 2 = nI a) (ho : al (10 + i) 0 = nI o) (hao : a < o) (ho8 : o ≤ 8) (hst : 10 ≤ al 1 q) : k_fill al (nI i) (nI q) = 0 := by
  unfold k_fill
  rw [hN, ix_nI (show i < 2 ^ 31 by omega), ix_nI (show q < 2 ^ 31 by omega), if_neg (fun z => z (nI_off hi (by omega))), if_neg (fun z => z (zin_nI (lo := 0) (hi := 4) (by omega) (by omega) (by decide))), if_neg (fun z => z hw), ha, ho, if_neg, if_neg (fun z => z hst)]
  rintro (z | z)
  · exact nI_ge hao (by omega) z
  · exact z (nI_lt (b := 8) (by omega) (by decide))
theorem k0_sail {al : Nat → Nat → Int32} {b B : Nat} (hB : al 0 6 = nI B) (hB4 : B ≤ 4) (hb : b < B) (hs : ¬ 20 < dep (al (24 + b) 1) (al (24 + b) 2) ∧ zIn (al (24 + b) 1 - al (24 + b) 2) (-100) 100) : k_sail al (nI b) = 0 := by
  unfold k_sail
  rw [hB, ix_nI (show b < 2 ^ 31 by omega), if_neg (fun z => z (nI_off hb (by omega))), if_neg (fun z => z hs)]
theorem k0_stow {al : Nat → Nat → Int32} {b B k c : Nat} {z : Int32} (hB : al 0 6 = nI B) (hB4 : B ≤ 4) (hb : b < B) (hk : k < 3) (hc : al (8 + 0) k = nI c) (hc3 : c < 2 ^ 30) (hc0 : ¬ nI c = 0) (hbt : BT al B b) (hfit : al (24 + b) 1 + al (24 + b) 2 + stL (nI k) ≤ al (24 + b) 0) : k_stow al (nI b) (nI k) z = 0 := by
  obtain ⟨L, f, t, h1, h2, h3, h4, h5⟩ := hbt
  obtain ⟨w, e1, hw8, e2⟩ := stL_10 k hk
  have h9 := (h4 hb).2
  have h10 := (h4 hb).1
  rw [h1, h2, h3, e1, nI_add, nI_add, nI_leI (by omega) (by omega)] at hfit
  have hc1 : 0 < c := by
    rcases Nat.eq_zero_or_pos c with q0 | q0
    · rw [q0] at hc0
      exact absurd nI_0 hc0
    · exact q0
  unfold k_stow
  rw [hB, ix_nI (show b < 2 ^ 31 by omega), ix_nI (show k < 2 ^ 31 by omega), if_neg (fun z => z (nI_off hb (by omega))), if_neg (fun z => z (zin_nI (lo := 0) (hi := 2) (by omega) (by omega) (by decide))), hc, if_neg (fun z => z (nI_le (a := 1) (by omega) (by omega))), h1, h2, h3, e2, pk_sub (by omega), pk_sub (by omega), if_neg (fun z => z (nI_le (by omega) (by omega)))]
theorem zset_upd {al : Nat → Nat → Int32} {k j : Nat} {v : Int32} : zset al k (upd (al k) j v) = zup al k j v := by
  funext a
  by_cases h : a = k
  · subst h; rw [zset_k, zup_k]
  · rw [zset_o h, zup_o h]
theorem kpF_s {f : Nat → Int32} {a : Nat} {v : Int32} : kpF f a (a + 1) v = upd f a v := if_neg (by omega)

set_option maxHeartbeats 8000000 in
set_option maxRecDepth 100000 in
theorem act_set {p : Program} {l : Launch} {e : Env} {s : State} {m : MethodId} {args : Array Value} {below : List Frame} {meth : Method} {c : Code} {D : va_G} {ad cy sa : Nat → Nat} {N B h : Nat} {al : Nat → Nat → Int32} {ex : Nat → va_E} {x : Int32} {H : Heap} {locs : List Loc} {ls : Array Slot} (S : CallFix p m c cL_act 17 s args wsL_act RL) (hE : ZEnv D cy sa (Acc (35 + 2 * N + B) ad s.heap.size) s) (hr : meth.sig.returnType = some .boolean) (hlk : meth.locks = false) (hfl : l.stackTraces = false) (hI : InvT al N B h) (hh3 : h < 2 ^ 20) (hW : WS D (35 + 2 * N + B) ad (sW cy ad N B al al ex) (Acc (35 + 2 * N + B) ad s.heap.size) s.heap H locs) {lq : Nat} (hlq : lq < 5) (hl : lv_has ls 17 [(0, .ref (ad 0)), (1, .ref (ad 28)), (2, .int x), (3, .int (nI N)), (4, .int (nI B)), (5, .int (nI lq))]) : W p l e ({ frames := 7, cells := 4, slots := 20, locals := 144 }) s m args below meth c H locs 0 0 (MQ below (QAct D (35 + 2 * N + B) ad cy s.heap.size h ex) args s 4 20 (Acc (35 + 2 * N + B) ad s.heap.size)) (F0 m 312 ls []) := by
  have hx := S.1
  have hb := S.2.1
  have hown := S.2.2.2.1
  have hts := S.2.2.2.2
  have hN := hI.1.1.1
  have hN6 := hI.1.1.2.1
  have hB := hI.1.1.2.2.1
  have hB4 := hI.1.1.2.2.2.1
  have hab := hI.1.ab
  have f43 := hts (.fieldLink RL 43 "PumiceSledgeLaw$Sim" "stones" "[I") (by decide +kernel)
  have hi4 : ∀ w ∈ wsX40, w ∈ wsL_act := by decide +kernel
  have f46 := hts (.fieldLink RL 46 "PumiceSledgeLaw$Sim" "weight" "[I") (by decide +kernel)
  refine lv_bipush (v := 10) hx hb dL_act_312 (by decide) ?_
  refine lv_aload_n hx hb dL_act_314 rfl (lv_at hl 1 rfl) ?_
  refine z_get (C := RX4) (T := TX4) (N := 9) (ci := 4) S hE hW hi4 rfl (by omega) sW_28 0 (by decide) rfl f43 (v := .ref (ad 29)) rfl dL_act_315 ?_
  refine lv_iload hx hb dL_act_318 (lv_at hl 5 rfl) ?_
  refine z_ald S hE hW (by omega) sW_29 lq rfl (by omega) (by decide) (v := al 1 lq) rfl dL_act_320 ?_
  refine lv_imul hx hb dL_act_321 ?_
  refine lv_aload_n hx hb dL_act_322 rfl (lv_at hl 1 rfl) ?_
  refine z_get (C := RX4) (T := TX4) (N := 9) (ci := 4) S hE hW hi4 rfl (by omega) sW_28 1 (by decide) rfl f46 (v := .ref (ad 30)) rfl dL_act_323 ?_
  refine lv_iload hx hb dL_act_326 (lv_at hl 5 rfl) ?_
  refine z_ald S hE hW (by omega) sW_30 lq rfl (by omega) (by decide) (v := al 2 lq) rfl dL_act_328 ?_
  refine lv_iadd hx hb dL_act_329 ?_
  refine lv_istore (lv' := [(9, .int ((10 * al 1 lq) + al 2 lq)), (0, .ref (ad 0)), (1, .ref (ad 28)), (2, .int x), (3, .int (nI N)), (4, .int (nI B)), (5, .int (nI lq))]) hx hb dL_act_330 hl (by decide) rfl (fun ls hl => ?_)
  refine lv_aload_n hx hb dL_act_332 rfl (lv_at hl 2 rfl) ?_
  refine z_get (C := RX4) (T := TX4) (N := 9) (ci := 4) S hE hW hi4 rfl (by omega) sW_28 0 (by decide) rfl f43 (v := .ref (ad 29)) rfl dL_act_333 ?_
  refine lv_iload hx hb dL_act_336 (lv_at hl 6 rfl) ?_
  refine lv_iload_n hx hb dL_act_338 rfl (lv_at hl 3 rfl) ?_
  refine lv_iconst (v := 1) hx hb dL_act_339 (by decide) ?_
  refine lv_ishr hx hb dL_act_340 ?_
  refine lv_sipush (v := 501) hx hb dL_act_341 (by decide) ?_
  refine z_pS (As := [.int (x >>> (1 &&& 31)), .int 501]) (rest := [.int (nI lq), .ref (ad 29)]) S hE hW (cL_below_ok l (x >>> (1 &&& 31)) 501 (by decide)) (va_cwS 2 hts gL_act_L_below rfl rfl rfl (by decide +kernel) ⟨Nat.le_of_ble_eq_true rfl, Nat.le_of_ble_eq_true rfl⟩) rfl hl.1 rfl (Nat.le_of_ble_eq_true rfl) dL_act_344 ⟨(by dsimp only; omega), (by dsimp only; omega)⟩ (fun H locs hW => ?_)
  obtain ⟨j344, hj344, hbj344⟩ : ∃ j, blw (x >>> (1 &&& 31)) 501 = nI j ∧ j < 501 := ⟨_, blN_e rfl (by decide) (by decide), blN_lt (by decide) (by decide)⟩
  refine z_top2 (y := nI j344) hj344 ?_
  refine z_ast (ce' := sW cy ad N B al (zup al 1 lq (nI j344)) ex) S hE hW (by omega) sW_29 lq rfl (by omega) (by decide) pS_1 (fun j h => oS_1 h) dL_act_347 (fun H locs hW => ?_)
  refine lv_aload_n hx hb dL_act_348 rfl (lv_at hl 2 rfl) ?_
  refine z_get (C := RX4) (T := TX4) (N := 9) (ci := 4) S hE hW hi4 rfl (by omega) sW_28 1 (by decide) rfl f46 (v := .ref (ad 30)) rfl dL_act_349 ?_
  refine lv_iload hx hb dL_act_352 (lv_at hl 6 rfl) ?_
  refine lv_iconst (v := 1) hx hb dL_act_354 (by decide) ?_
  refine lv_iload_n hx hb dL_act_355 rfl (lv_at hl 3 rfl) ?_
  refine lv_iconst (v := 4) hx hb dL_act_356 (by decide) ?_
  refine lv_ishr hx hb dL_act_357 ?_
  refine lv_bipush (v := 9) hx hb dL_act_358 (by decide) ?_
  refine z_pS (As := [.int (x >>> (4 &&& 31)), .int 9]) (rest := [.int 1, .int (nI lq), .ref (ad 30)]) S hE hW (cL_below_ok l (x >>> (4 &&& 31)) 9 (by decide)) (va_cwS 2 hts gL_act_L_below rfl rfl rfl (by decide +kernel) ⟨Nat.le_of_ble_eq_true rfl, Nat.le_of_ble_eq_true rfl⟩) rfl hl.1 rfl (Nat.le_of_ble_eq_true rfl) dL_act_360 ⟨(by dsimp only; omega), (by dsimp only; omega)⟩ (fun H locs hW => ?_)
  obtain ⟨j360, hj360, hbj360⟩ : ∃ j, blw (x >>> (4 &&& 31)) 9 = nI j ∧ j < 9 := ⟨_, blN_e rfl (by decide) (by decide), blN_lt (by decide) (by decide)⟩
  refine z_top2 (y := nI j360) hj360 ?_
  refine lv_iadd hx hb dL_act_363 ?_
  refine z_top2 (y := nI (1 + j360)) (nI_add 1 j360) ?_
  refine z_ast (ce' := sW cy ad N B al (zup (zup al 1 lq (nI j344)) 2 lq (nI (1 + j360))) ex) S hE hW (by omega) sW_30 lq rfl (by omega) (by decide) pS_2 (fun j h => oS_2 h) dL_act_364 (fun H locs hW => ?_)
  refine lv_aload_n hx hb dL_act_365 rfl (lv_at hl 1 rfl) ?_
  refine lv_iload hx hb dL_act_366 (lv_at hl 6 rfl) ?_
  refine lv_aload_n hx hb dL_act_368 rfl (lv_at hl 2 rfl) ?_
  refine z_get (C := RX4) (T := TX4) (N := 9) (ci := 4) S hE hW hi4 rfl (by omega) sW_28 0 (by decide) rfl f43 (v := .ref (ad 29)) rfl dL_act_369 ?_
  refine lv_iload hx hb dL_act_372 (lv_at hl 6 rfl) ?_
  refine z_ald S hE hW (by omega) sW_29 lq rfl (by omega) (by decide) (v := nI j344) ((congrFun (zup_o (by omega)) lq).trans ((congrFun zup_k lq).trans up_s)) dL_act_374 ?_
  refine lv_aload_n hx hb dL_act_375 rfl (lv_at hl 2 rfl) ?_
  refine z_get (C := RX4) (T := TX4) (N := 9) (ci := 4) S hE hW hi4 rfl (by omega) sW_28 1 (by decide) rfl f46 (v := .ref (ad 30)) rfl dL_act_376 ?_
  refine lv_iload hx hb dL_act_379 (lv_at hl 6 rfl) ?_
  refine z_ald S hE hW (by omega) sW_30 lq rfl (by omega) (by decide) (v := nI (1 + j360)) ((congrFun zup_k lq).trans up_s) dL_act_381 ?_
  refine z_xVi (As := [.int (nI lq), .int (nI j344), .int (nI (1 + j360))]) (rest := []) (k := 0) S hE hW (cX3_set_ok l D (35 + 2 * N + B) ad cy sa H.size (by omega) al (exS cy ad N B (zup (zup al 1 lq (nI j344)) 2 lq (nI (1 + j360))) ex) (nI lq) (nI j344) (nI (1 + j360)) hfl) (cwV 3 hts gL_act_X3_set rfl rfl rfl (by decide +kernel) ⟨Nat.le_of_ble_eq_true rfl, Nat.le_of_ble_eq_true rfl⟩) (by omega) cC_0 rfl rfl rfl hl.1 rfl (Nat.le_of_ble_eq_true rfl) dL_act_382 ⟨(by dsimp only; omega), (by dsimp only; omega)⟩ (fun E x9 q9 H locs hbad hW hx9 hv9 hc9 => absurd hbad (zbad_0 (k0_set (by omega) (by omega) ⟨by omega, by omega⟩))) (fun r _ H locs hp hW => ?_)
  obtain ⟨-, rfl⟩ := hp
  rw [(show u_set al (nI lq) (nI j344) (nI (1 + j360)) = (zup (zup al 1 lq (nI j344)) 2 lq (nI (1 + j360))) from by unfold u_set; rw [ix_nI (show lq < 2 ^ 31 by omega)])] at hW
  refine z_top2 (y := ((10 * al 1 lq) + al 2 lq)) (by unfold v_set; rw [ix_nI (show lq < 2 ^ 31 by omega)]) ?_
  refine lv_iload hx hb dL_act_385 (lv_at hl 0 rfl) ?_
  refine lv_icmp_ne (tgt := 394) hx hb dL_act_387 (by decide) (fun h => absurd rfl h) (fun _ => ?_)
  refine lv_iconst (v := 1) hx hb dL_act_390 (by decide) ?_
  refine lv_goto (tgt := 395) hx hb dL_act_391 (by decide) ?_
  exact zg_z S hW hr hlk (ad, (zup (zup al 1 lq (nI j344)) 2 lq (nI (1 + j360))), N, B) rfl (Or.inr rfl) ⟨rfl, hI.set, rfl, rfl⟩ (by omega) (by omega) dL_act_395

set_option maxHeartbeats 8000000 in
set_option maxRecDepth 100000 in
theorem act_gust {p : Program} {l : Launch} {e : Env} {s : State} {m : MethodId} {args : Array Value} {below : List Frame} {meth : Method} {c : Code} {D : va_G} {ad cy sa : Nat → Nat} {N B h : Nat} {al : Nat → Nat → Int32} {ex : Nat → va_E} {x : Int32} {H : Heap} {locs : List Loc} {ls : Array Slot} (S : CallFix p m c cL_act 17 s args wsL_act RL) (hE : ZEnv D cy sa (Acc (35 + 2 * N + B) ad s.heap.size) s) (hr : meth.sig.returnType = some .boolean) (hlk : meth.locks = false) (hfl : l.stackTraces = false) (hI : InvT al N B h) (hh3 : h < 2 ^ 20) (hW : WS D (35 + 2 * N + B) ad (sW cy ad N B al al ex) (Acc (35 + 2 * N + B) ad s.heap.size) s.heap H locs) {lq : Nat} (hlq : lq < 5) (hl : lv_has ls 17 [(0, .ref (ad 0)), (1, .ref (ad 28)), (2, .int x), (3, .int (nI N)), (4, .int (nI B)), (5, .int (nI lq))]) : W p l e ({ frames := 7, cells := 4, slots := 20, locals := 144 }) s m args below meth c H locs 0 0 (MQ below (QAct D (35 + 2 * N + B) ad cy s.heap.size h ex) args s 4 20 (Acc (35 + 2 * N + B) ad s.heap.size)) (F0 m 396 ls []) := by
  have hx := S.1
  have hb := S.2.1
  have hown := S.2.2.2.1
  have hts := S.2.2.2.2
  have hN := hI.1.1.1
  have hN6 := hI.1.1.2.1
  have hB := hI.1.1.2.2.1
  have hB4 := hI.1.1.2.2.2.1
  have hab := hI.1.ab
  have f53 := hts (.fieldLink RL 53 "PumiceSledgeLaw$Sim" "gusts" "[I") (by decide +kernel)
  have hi4 : ∀ w ∈ wsX40, w ∈ wsL_act := by decide +kernel
  refine lv_iload_n hx hb dL_act_396 rfl (lv_at hl 2 rfl) ?_
  refine lv_bipush (v := 8) hx hb dL_act_397 (by decide) ?_
  refine z_pS (As := [.int x, .int 8]) (rest := []) S hE hW (cL_below_ok l x 8 (by decide)) (va_cwS 2 hts gL_act_L_below rfl rfl rfl (by decide +kernel) ⟨Nat.le_of_ble_eq_true rfl, Nat.le_of_ble_eq_true rfl⟩) rfl hl.1 rfl (Nat.le_of_ble_eq_true rfl) dL_act_399 ⟨(by dsimp only; omega), (by dsimp only; omega)⟩ (fun H locs hW => ?_)
  obtain ⟨j399, hj399, hbj399⟩ : ∃ j, blw x 8 = nI j ∧ j < 8 := ⟨_, blN_e rfl (by decide) (by decide), blN_lt (by decide) (by decide)⟩
  refine z_top2 (y := nI j399) hj399 ?_
  refine lv_istore (lv' := [(10, .int (nI j399)), (0, .ref (ad 0)), (1, .ref (ad 28)), (2, .int x), (3, .int (nI N)), (4, .int (nI B)), (5, .int (nI lq))]) hx hb dL_act_402 hl (by decide) rfl (fun ls hl => ?_)
  refine lv_aload_n hx hb dL_act_404 rfl (lv_at hl 2 rfl) ?_
  refine z_get (C := RX4) (T := TX4) (N := 9) (ci := 4) S hE hW hi4 rfl (by omega) sW_28 2 (by decide) rfl f53 (v := .ref (ad 31)) rfl dL_act_405 ?_
  refine lv_iload hx hb dL_act_408 (lv_at hl 0 rfl) ?_
  refine z_ald S hE hW (by omega) sW_31 j399 rfl (by omega) (by decide) (v := al 3 j399) rfl dL_act_410 ?_
  refine lv_istore (lv' := [(11, .int (al 3 j399)), (10, .int (nI j399)), (0, .ref (ad 0)), (1, .ref (ad 28)), (2, .int x), (3, .int (nI N)), (4, .int (nI B)), (5, .int (nI lq))]) hx hb dL_act_411 hl (by decide) rfl (fun ls hl => ?_)
  refine lv_aload_n hx hb dL_act_413 rfl (lv_at hl 3 rfl) ?_
  refine z_get (C := RX4) (T := TX4) (N := 9) (ci := 4) S hE hW hi4 rfl (by omega) sW_28 2 (by decide) rfl f53 (v := .ref (ad 31)) rfl dL_act_414 ?_
  refine lv_iload hx hb dL_act_417 (lv_at hl 1 rfl) ?_
  refine lv_iload_n hx hb dL_act_419 rfl (lv_at hl 4 rfl) ?_
  refine lv_iconst (v := 3) hx hb dL_act_420 (by decide) ?_
  refine lv_ishr hx hb dL_act_421 ?_
  refine lv_bipush (v := 10) hx hb dL_act_422 (by decide) ?_
  refine z_pS (As := [.int (x >>> (3 &&& 31)), .int 10]) (rest := [.int (nI j399), .ref (ad 31)]) S hE hW (cL_below_ok l (x >>> (3 &&& 31)) 10 (by decide)) (va_cwS 2 hts gL_act_L_below rfl rfl rfl (by decide +kernel) ⟨Nat.le_of_ble_eq_true rfl, Nat.le_of_ble_eq_true rfl⟩) rfl hl.1 rfl (Nat.le_of_ble_eq_true rfl) dL_act_424 ⟨(by dsimp only; omega), (by dsimp only; omega)⟩ (fun H locs hW => ?_)
  obtain ⟨j424, hj424, hbj424⟩ : ∃ j, blw (x >>> (3 &&& 31)) 10 = nI j ∧ j < 10 := ⟨_, blN_e rfl (by decide) (by decide), blN_lt (by decide) (by decide)⟩
  refine z_top2 (y := nI j424) hj424 ?_
  refine z_ast (ce' := sW cy ad N B al (zup al 3 j399 (nI j424)) ex) S hE hW (by omega) sW_31 j399 rfl (by omega) (by decide) pS_3 (fun j h => oS_3 h) dL_act_427 (fun H locs hW => ?_)
  refine lv_aload_n hx hb dL_act_428 rfl (lv_at hl 2 rfl) ?_
  refine lv_iload hx hb dL_act_429 (lv_at hl 1 rfl) ?_
  refine lv_aload_n hx hb dL_act_431 rfl (lv_at hl 3 rfl) ?_
  refine z_get (C := RX4) (T := TX4) (N := 9) (ci := 4) S hE hW hi4 rfl (by omega) sW_28 2 (by decide) rfl f53 (v := .ref (ad 31)) rfl dL_act_432 ?_
  refine lv_iload hx hb dL_act_435 (lv_at hl 1 rfl) ?_
  refine z_ald S hE hW (by omega) sW_31 j399 rfl (by omega) (by decide) (v := nI j424) ((congrFun zup_k j399).trans up_s) dL_act_437 ?_
  refine z_xVi (As := [.int (nI j399), .int (nI j424)]) (rest := []) (k := 0) S hE hW (cX3_setGust_ok l D (35 + 2 * N + B) ad cy sa H.size (by omega) al (exS cy ad N B (zup al 3 j399 (nI j424)) ex) (nI j399) (nI j424) hfl) (cwV 2 hts gL_act_X3_setGust rfl rfl rfl (by decide +kernel) ⟨Nat.le_of_ble_eq_true rfl, Nat.le_of_ble_eq_true rfl⟩) (by omega) cC_0 rfl rfl rfl hl.1 rfl (Nat.le_of_ble_eq_true rfl) dL_act_438 ⟨(by dsimp only; omega), (by dsimp only; omega)⟩ (fun E x9 q9 H locs hbad hW hx9 hv9 hc9 => absurd hbad (zbad_0 (k0_setGust (by omega) (by omega)))) (fun r _ H locs hp hW => ?_)
  obtain ⟨-, rfl⟩ := hp
  rw [(show u_setGust al (nI j399) (nI j424) = (zup al 3 j399 (nI j424)) from by unfold u_setGust; rw [ix_nI (show j399 < 2 ^ 31 by omega)])] at hW
  refine z_top2 (y := al 3 j399) (by unfold v_setGust; rw [ix_nI (show j399 < 2 ^ 31 by omega)]) ?_
  refine lv_iload hx hb dL_act_441 (lv_at hl 0 rfl) ?_
  refine lv_icmp_ne (tgt := 450) hx hb dL_act_443 (by decide) (fun h => absurd rfl h) (fun _ => ?_)
  refine lv_iconst (v := 1) hx hb dL_act_446 (by decide) ?_
  refine lv_goto (tgt := 451) hx hb dL_act_447 (by decide) ?_
  exact zg_z S hW hr hlk (ad, (zup al 3 j399 (nI j424)), N, B) rfl (Or.inr rfl) ⟨rfl, hI.setGust (by omega), rfl, rfl⟩ (by omega) (by omega) dL_act_451

set_option maxHeartbeats 8000000 in
set_option maxRecDepth 100000 in
theorem act_go {p : Program} {l : Launch} {e : Env} {s : State} {m : MethodId} {args : Array Value} {below : List Frame} {meth : Method} {c : Code} {D : va_G} {ad cy sa : Nat → Nat} {N B h : Nat} {al : Nat → Nat → Int32} {ex : Nat → va_E} {x : Int32} {H : Heap} {locs : List Loc} {ls : Array Slot} (S : CallFix p m c cL_act 17 s args wsL_act RL) (hE : ZEnv D cy sa (Acc (35 + 2 * N + B) ad s.heap.size) s) (hr : meth.sig.returnType = some .boolean) (hlk : meth.locks = false) (hfl : l.stackTraces = false) (hI : InvT al N B h) (hh3 : h < 2 ^ 20) (hW : WS D (35 + 2 * N + B) ad (sW cy ad N B al al ex) (Acc (35 + 2 * N + B) ad s.heap.size) s.heap H locs) {lq i : Nat} (hlq : lq < 5) (hi : i < N) (hix : blN x N = i) (hl : lv_has ls 17 [(0, .ref (ad 0)), (1, .ref (ad 28)), (2, .int x), (3, .int (nI N)), (4, .int (nI B)), (5, .int (nI lq)), (6, .ref (ad (35 + 2 * i)))]) : W p l e ({ frames := 7, cells := 4, slots := 20, locals := 144 }) s m args below meth c H locs 0 0 (MQ below (QAct D (35 + 2 * N + B) ad cy s.heap.size h ex) args s 4 20 (Acc (35 + 2 * N + B) ad s.heap.size)) (F0 m 560 ls []) := by
  have hx := S.1
  have hb := S.2.1
  have hown := S.2.2.2.1
  have hts := S.2.2.2.2
  have hN := hI.1.1.1
  have hN6 := hI.1.1.2.1
  have hB := hI.1.1.2.2.1
  have hB4 := hI.1.1.2.2.2.1
  have hab := hI.1.ab
  obtain ⟨o, a, tq, cq, ho, hrow, ha8, ht20, hc2, hio, -⟩ := hI.1.2.1 i (by omega)
  have hao := hio hi
  have ha : al (10 + i) 2 = nI a := hrow.1
  have f59 := hts (.fieldLink RL 59 "PumiceSledgeLaw$Sledge" "way" "I") (by decide +kernel)
  have hi5 : ∀ w ∈ wsX50, w ∈ wsL_act := by decide +kernel
  have f62 := hts (.fieldLink RL 62 "PumiceSledgeLaw$Sledge" "sacks" "[I") (by decide +kernel)
  refine lv_iload_n hx hb dL_act_560 rfl (lv_at hl 3 rfl) ?_
  refine lv_if_eq (tgt := 572) hx hb dL_act_561 (by decide) (fun h => absurd h (nI_ne0 (by omega) (by omega))) (fun _ => ?_)
  refine lv_aload hx hb dL_act_564 (lv_at hl 6 rfl) ?_
  refine z_get (C := RX5) (T := TX5) (N := 4) (ci := 5) S hE hW hi5 rfl (by omega) (sW_so (i := i) hi) 2 (by decide) rfl f59 (v := .int (al (10 + i) 4)) rfl dL_act_566 ?_
  refine lv_if_eq (tgt := 574) hx hb dL_act_569 (by decide) (fun c569 => ?_) (fun c569 => ?_)
  · refine lv_aload hx hb dL_act_574 (lv_at hl 6 rfl) ?_
    refine lv_iconst (v := 1) hx hb dL_act_576 (by decide) ?_
    refine z_put (ce' := sW cy ad N B al (zup al (10 + i) 4 1) ex) (C := RX5) (T := TX5) (N := 4) (ci := 5) S hE hW hi5 tyX5 tyX5_ok nmX5 rfl (by omega) (sW_so (i := i) hi) 2 (by decide) rfl f59 rfl rfl (Nat.le_of_ble_eq_true rfl) (pS_s (i := i) hi (by decide)) (fun j h => oS_s (by omega) hN6 hB4 (by decide) h) dL_act_577 (fun H locs hW => ?_)
    refine lv_aload_n hx hb dL_act_580 rfl (lv_at hl 0 rfl) ?_
    refine lv_iload_n hx hb dL_act_581 rfl (lv_at hl 2 rfl) ?_
    refine lv_iload_n hx hb dL_act_582 rfl (lv_at hl 3 rfl) ?_
    refine z_pS (As := [.int x, .int (nI N)]) (rest := [.ref (ad 0)]) S hE hW (cL_below_ok l x (nI N) (nI_ne0 (by omega) (by omega))) (va_cwS 2 hts gL_act_L_below rfl rfl rfl (by decide +kernel) ⟨Nat.le_of_ble_eq_true rfl, Nat.le_of_ble_eq_true rfl⟩) rfl hl.1 rfl (Nat.le_of_ble_eq_true rfl) dL_act_583 ⟨(by dsimp only; omega), (by dsimp only; omega)⟩ (fun H locs hW => ?_)
    refine z_top2 (y := nI i) ((blN_e rfl (by omega) (by omega)).trans (congrArg nI hix)) ?_
    refine z_xVi (As := [.int (nI i)]) (rest := []) (k := 0) S hE hW (cX3_go_ok l D (35 + 2 * N + B) ad cy sa H.size (by omega) al (exS cy ad N B (zup al (10 + i) 4 1) ex) (nI i) N hN hN6 hfl) (cwV 1 hts gL_act_X3_go rfl rfl rfl (by decide +kernel) ⟨Nat.le_of_ble_eq_true rfl, Nat.le_of_ble_eq_true rfl⟩) (by omega) cC_0 rfl rfl rfl hl.1 rfl (Nat.le_of_ble_eq_true rfl) dL_act_586 ⟨(by dsimp only; omega), (by dsimp only; omega)⟩ (fun E x9 q9 H locs hbad hW hx9 hv9 hc9 => absurd hbad (zbad_0 (k0_go hN hN6 hi c569))) (fun r _ H locs hp hW => ?_)
    obtain ⟨-, rfl⟩ := hp
    rw [(show u_go al (nI i) = (zup al (10 + i) 4 1) from by unfold u_go; rw [ix_nI (show i < 2 ^ 31 by omega)])] at hW
    refine z_top2 (y := nI a) (by unfold v_go; rw [ix_nI (show i < 2 ^ 31 by omega)]; exact ha) ?_
    refine lv_aload hx hb dL_act_589 (lv_at hl 6 rfl) ?_
    refine z_get (C := RX5) (T := TX5) (N := 4) (ci := 5) S hE hW hi5 rfl (by omega) (sW_so (i := i) hi) 3 (by decide) rfl f62 (v := .ref (ad (36 + 2 * i))) rfl dL_act_591 ?_
    refine z_alenG (t0 := 0) S hE hW (by omega) (sW_sal hi (((congrFun zup_k 2).trans (up_n (by decide))).trans ha) (by omega)) rfl (v := nI a) rfl dL_act_594 ?_
    refine lv_icmp_ne (tgt := 602) hx hb dL_act_595 (by decide) (fun h => absurd rfl h) (fun _ => ?_)
    refine lv_iconst (v := 1) hx hb dL_act_598 (by decide) ?_
    refine lv_goto (tgt := 603) hx hb dL_act_599 (by decide) ?_
    exact zg_z S hW hr hlk (ad, (zup al (10 + i) 4 1), N, B) rfl (Or.inr rfl) ⟨rfl, hI.go hi, rfl, rfl⟩ (by omega) (by omega) dL_act_603
  · refine lv_iconst (v := 1) hx hb dL_act_572 (by decide) ?_
    exact zg_z S hW hr hlk (ad, al, N, B) rfl (Or.inr rfl) ⟨rfl, hI, rfl, rfl⟩ (by omega) (by omega) dL_act_573

set_option maxHeartbeats 8000000 in
set_option maxRecDepth 100000 in
theorem act_fill {p : Program} {l : Launch} {e : Env} {s : State} {m : MethodId} {args : Array Value} {below : List Frame} {meth : Method} {c : Code} {D : va_G} {ad cy sa : Nat → Nat} {N B h : Nat} {al : Nat → Nat → Int32} {ex : Nat → va_E} {x : Int32} {H : Heap} {locs : List Loc} {ls : Array Slot} (S : CallFix p m c cL_act 17 s args wsL_act RL) (hE : ZEnv D cy sa (Acc (35 + 2 * N + B) ad s.heap.size) s) (hr : meth.sig.returnType = some .boolean) (hlk : meth.locks = false) (hfl : l.stackTraces = false) (hI : InvT al N B h) (hh3 : h < 2 ^ 20) (hW : WS D (35 + 2 * N + B) ad (sW cy ad N B al al ex) (Acc (35 + 2 * N + B) ad s.heap.size) s.heap H locs) {lq i : Nat} (hlq : lq < 5) (hi : i < N) (hix : blN x N = i) (hl : lv_has ls 17 [(0, .ref (ad 0)), (1, .ref (ad 28)), (2, .int x), (3, .int (nI N)), (4, .int (nI B)), (5, .int (nI lq)), (6, .ref (ad (35 + 2 * i)))]) : W p l e ({ frames := 7, cells := 4, slots := 20, locals := 144 }) s m args below meth c H locs 0 0 (MQ below (QAct D (35 + 2 * N + B) ad cy s.heap.size h ex) args s 4 20 (Acc (35 + 2 * N + B) ad s.heap.size)) (F0 m 452 ls []) := by
  have hx := S.1
  have hb := S.2.1
  have hown := S.2.2.2.1
  have hts := S.2.2.2.2
  have hN := hI.1.1.1
  have hN6 := hI.1.1.2.1
  have hB := hI.1.1.2.2.1
  have hB4 := hI.1.1.2.2.2.1
  have hab := hI.1.ab
  obtain ⟨o, a, tq, cq, ho, hrow, ha8, ht20, hc2, hio, -⟩ := hI.1.2.1 i (by omega)
  have hao := hio hi
  have ha : al (10 + i) 2 = nI a := hrow.1
  have f59 := hts (.fieldLink RL 59 "PumiceSledgeLaw$Sledge" "way" "I") (by decide +kernel)
  have hi5 : ∀ w ∈ wsX50, w ∈ wsL_act := by decide +kernel
  have f62 := hts (.fieldLink RL 62 "PumiceSledgeLaw$Sledge" "sacks" "[I") (by decide +kernel)
  have f28 := hts (.fieldLink RL 28 "PumiceSledgeLaw$Sledge" "holds" "I") (by decide +kernel)
  have f43 := hts (.fieldLink RL 43 "PumiceSledgeLaw$Sim" "stones" "[I") (by decide +kernel)
  have hi4 : ∀ w ∈ wsX40, w ∈ wsL_act := by decide +kernel
  have f46 := hts (.fieldLink RL 46 "PumiceSledgeLaw$Sim" "weight" "[I") (by decide +kernel)
  refine lv_iload_n hx hb dL_act_452 rfl (lv_at hl 3 rfl) ?_
  refine lv_if_eq (tgt := 490) hx hb dL_act_453 (by decide) (fun h => absurd h (nI_ne0 (by omega) (by omega))) (fun _ => ?_)
  refine lv_aload hx hb dL_act_456 (lv_at hl 6 rfl) ?_
  refine z_get (C := RX5) (T := TX5) (N := 4) (ci := 5) S hE hW hi5 rfl (by omega) (sW_so (i := i) hi) 2 (by decide) rfl f59 (v := .int (al (10 + i) 4)) rfl dL_act_458 ?_
  refine lv_if_ne (tgt := 490) hx hb dL_act_461 (by decide) (fun c461 => ?_) (fun c461 => ?_)
  · refine lv_iconst (v := 1) hx hb dL_act_490 (by decide) ?_
    exact zg_z S hW hr hlk (ad, al, N, B) rfl (Or.inr rfl) ⟨rfl, hI, rfl, rfl⟩ (by omega) (by omega) dL_act_491
  · refine lv_aload hx hb dL_act_464 (lv_at hl 6 rfl) ?_
    refine z_get (C := RX5) (T := TX5) (N := 4) (ci := 5) S hE hW hi5 rfl (by omega) (sW_so (i := i) hi) 3 (by decide) rfl f62 (v := .ref (ad (36 + 2 * i))) rfl dL_act_466 ?_
    refine z_alenG (t0 := 0) S hE hW (by omega) (sW_sal hi (ha) (by omega)) rfl (v := nI a) rfl dL_act_469 ?_
    refine lv_aload hx hb dL_act_470 (lv_at hl 6 rfl) ?_
    refine z_get (C := RX5) (T := TX5) (N := 4) (ci := 5) S hE hW hi5 rfl (by omega) (sW_so (i := i) hi) 0 (by decide) rfl f28 (v := .int (nI o)) (congrArg (fun z => some (Value.int z)) (ho)) dL_act_472 ?_
    refine lv_icmp_eq (tgt := 490) hx hb dL_act_475 (by decide) (fun c475 => ?_) (fun c475 => ?_)
    · refine lv_iconst (v := 1) hx hb dL_act_490 (by decide) ?_
      exact zg_z S hW hr hlk (ad, al, N, B) rfl (Or.inr rfl) ⟨rfl, hI, rfl, rfl⟩ (by omega) (by omega) dL_act_491
    · have hlt : a < o := by have := hao.1; rcases Nat.lt_or_ge a o with q | q; exact q; exact absurd (congrArg nI (show a = o by omega)) c475
      refine lv_aload_n hx hb dL_act_478 rfl (lv_at hl 1 rfl) ?_
      refine z_get (C := RX4) (T := TX4) (N := 9) (ci := 4) S hE hW hi4 rfl (by omega) sW_28 0 (by decide) rfl f43 (v := .ref (ad 29)) rfl dL_act_479 ?_
      refine lv_iload hx hb dL_act_482 (lv_at hl 5 rfl) ?_
      refine z_ald S hE hW (by omega) sW_29 lq rfl (by omega) (by decide) (v := al 1 lq) rfl dL_act_484 ?_
      refine lv_bipush (v := 10) hx hb dL_act_485 (by decide) ?_
      refine lv_icmp_ge (tgt := 492) hx hb dL_act_487 (by decide) (fun c487 => ?_) (fun c487 => ?_)
      · refine lv_aload_n hx hb dL_act_492 rfl (lv_at hl 1 rfl) ?_
        refine z_get (C := RX4) (T := TX4) (N := 9) (ci := 4) S hE hW hi4 rfl (by omega) sW_28 0 (by decide) rfl f43 (v := .ref (ad 29)) rfl dL_act_493 ?_
        refine lv_iload hx hb dL_act_496 (lv_at hl 5 rfl) ?_
        refine lv_dup2_11 hx hb dL_act_498 rfl rfl ?_
        refine z_ald S hE hW (by omega) sW_29 lq rfl (by omega) (by decide) (v := al 1 lq) rfl dL_act_499 ?_
        refine lv_bipush (v := 10) hx hb dL_act_500 (by decide) ?_
        refine lv_isub hx hb dL_act_502 ?_
        refine z_ast (ce' := sW cy ad N B al (zup al 1 lq (al 1 lq - 10)) ex) S hE hW (by omega) sW_29 lq rfl (by omega) (by decide) pS_1 (fun j h => oS_1 h) dL_act_503 (fun H locs hW => ?_)
        refine lv_aload hx hb dL_act_504 (lv_at hl 6 rfl) ?_
        refine lv_aload hx hb dL_act_506 (lv_at hl 6 rfl) ?_
        refine z_get (C := RX5) (T := TX5) (N := 4) (ci := 5) S hE hW hi5 rfl (by omega) (sW_so (i := i) hi) 3 (by decide) rfl f62 (v := .ref (ad (36 + 2 * i))) rfl dL_act_508 ?_
        refine z_alenG (t0 := 0) S hE hW (by omega) (sW_sal hi ((congrFun (zup_o (by omega)) 2).trans ha) (by omega)) rfl (v := nI a) rfl dL_act_511 ?_
        refine lv_iconst (v := 1) hx hb dL_act_512 (by decide) ?_
        refine lv_iadd hx hb dL_act_513 ?_
        refine z_top2 (y := nI (a + 1)) (nI_1 a) ?_
        refine lv_bipush (v := 10) hx hb dL_act_514 (by decide) ?_
        refine lv_aload_n hx hb dL_act_516 rfl (lv_at hl 1 rfl) ?_
        refine z_get (C := RX4) (T := TX4) (N := 9) (ci := 4) S hE hW hi4 rfl (by omega) sW_28 1 (by decide) rfl f46 (v := .ref (ad 30)) rfl dL_act_517 ?_
        refine lv_iload hx hb dL_act_520 (lv_at hl 5 rfl) ?_
        refine z_ald S hE hW (by omega) sW_30 lq rfl (by omega) (by decide) (v := al 2 lq) (congrFun (zup_o (by omega)) lq) dL_act_522 ?_
        refine lv_imul hx hb dL_act_523 ?_
        refine z_gVv (As := [.int (nI (a + 1)), .int (10 * al 2 lq)]) (rest := []) (k := (35 + 2 * i)) S hE hW (cX5_keep_ok l D (35 + 2 * N + B) ad cy sa H.size N B (by omega) (by omega) (by omega) al (zup al 1 lq (al 1 lq - 10)) ex i hi a ((congrFun (zup_o (by omega)) 2).trans ha) (by omega) (a + 1) (by omega) (by omega) (10 * al 2 lq)) (cwV 2 hts gL_act_X5_keep rfl rfl rfl (by decide +kernel) ⟨Nat.le_of_ble_eq_true rfl, Nat.le_of_ble_eq_true rfl⟩) (by omega) (sW_so (i := i) hi) rfl rfl rfl hl.1 rfl (Nat.le_of_ble_eq_true rfl) dL_act_524 ⟨(by dsimp only; omega), (by dsimp only; omega)⟩ (fun ad2 H locs had2 hW => ?_)
        replace hW : WS D (35 + 2 * N + B) ad2 (sW cy ad2 N B al (zup (zset (zup al 1 lq (al 1 lq - 10)) (17 + i) (kpF ((zup al 1 lq (al 1 lq - 10)) (17 + i)) a (a + 1) (10 * al 2 lq))) (10 + i) 2 (nI (a + 1))) ex) (Acc (35 + 2 * N + B) ad s.heap.size) s.heap H locs := hW
        replace hl : lv_has ls 17 [(0, .ref (ad2 0)), (1, .ref (ad2 28)), (2, .int x), (3, .int (nI N)), (4, .int (nI B)), (5, .int (nI lq)), (6, .ref (ad2 (35 + 2 * i)))] := by
          rw [had2 0 (by omega), had2 28 (by omega), had2 (35 + 2 * i) (by omega)]; exact hl
        rw [kpF_s, zset_upd] at hW
        refine lv_aload_n hx hb dL_act_527 rfl (lv_at hl 0 rfl) ?_
        refine lv_iload_n hx hb dL_act_528 rfl (lv_at hl 2 rfl) ?_
        refine lv_iload_n hx hb dL_act_529 rfl (lv_at hl 3 rfl) ?_
        refine z_pS (As := [.int x, .int (nI N)]) (rest := [.ref (ad2 0)]) S hE hW (cL_below_ok l x (nI N) (nI_ne0 (by omega) (by omega))) (va_cwS 2 hts gL_act_L_below rfl rfl rfl (by decide +kernel) ⟨Nat.le_of_ble_eq_true rfl, Nat.le_of_ble_eq_true rfl⟩) rfl hl.1 rfl (Nat.le_of_ble_eq_true rfl) dL_act_530 ⟨(by dsimp only; omega), (by dsimp only; omega)⟩ (fun H locs hW => ?_)
        refine z_top2 (y := nI i) ((blN_e rfl (by omega) (by omega)).trans (congrArg nI hix)) ?_
        refine lv_iload hx hb dL_act_533 (lv_at hl 5 rfl) ?_
        refine z_xVi (As := [.int (nI i), .int (nI lq)]) (rest := []) (k := 0) S hE hW (cX3_fill_ok l D (35 + 2 * N + B) ad2 cy sa H.size (by omega) al (exS cy ad2 N B (zup (zup (zup al 1 lq (al 1 lq - 10)) (17 + i) a (10 * al 2 lq)) (10 + i) 2 (nI (a + 1))) ex) (nI i) (nI lq) N hN hN6 hab hfl) (cwV 2 hts gL_act_X3_fill rfl rfl rfl (by decide +kernel) ⟨Nat.le_of_ble_eq_true rfl, Nat.le_of_ble_eq_true rfl⟩) (by omega) cC_0 rfl rfl rfl hl.1 rfl (Nat.le_of_ble_eq_true rfl) dL_act_535 ⟨(by dsimp only; omega), (by dsimp only; omega)⟩ (fun E x9 q9 H locs hbad hW hx9 hv9 hc9 => absurd hbad (zbad_0 (k0_fill hN hN6 hi hlq c461 ha ho hlt (by omega) c487))) (fun r _ H locs hp hW => ?_)
        obtain ⟨-, rfl⟩ := hp
        rw [(show u_fill al (nI i) (nI lq) = (zup (zup (zup al 1 lq (al 1 lq - 10)) (17 + i) a (10 * al 2 lq)) (10 + i) 2 (nI (a + 1))) from by unfold u_fill; rw [ix_nI (show i < 2 ^ 31 by omega), ix_nI (show lq < 2 ^ 31 by omega), ha, ix_nI (show a < 2 ^ 31 by omega), nI_1])] at hW
        refine z_top2 (y := knd (10 * al 2 lq)) (by unfold v_fill; rw [ix_nI (show lq < 2 ^ 31 by omega)]) ?_
        refine lv_bipush (v := 10) hx hb dL_act_538 (by decide) ?_
        refine lv_aload_n hx hb dL_act_540 rfl (lv_at hl 1 rfl) ?_
        refine z_get (C := RX4) (T := TX4) (N := 9) (ci := 4) S hE hW hi4 rfl (by omega) sW_28 1 (by decide) rfl f46 (v := .ref (ad2 30)) rfl dL_act_541 ?_
        refine lv_iload hx hb dL_act_544 (lv_at hl 5 rfl) ?_
        refine z_ald S hE hW (by omega) sW_30 lq rfl (by omega) (by decide) (v := al 2 lq) ((congrFun (zup_o (by omega)) lq).trans ((congrFun (zup_o (by omega)) lq).trans (congrFun (zup_o (by omega)) lq))) dL_act_546 ?_
        refine lv_imul hx hb dL_act_547 ?_
        refine z_pS (As := [.int (10 * al 2 lq)]) (rest := [.int (knd (10 * al 2 lq))]) S hE hW (cL_kind_ok l (10 * al 2 lq)) (va_cwS 1 hts gL_act_L_kind rfl rfl rfl (by decide +kernel) ⟨Nat.le_of_ble_eq_true rfl, Nat.le_of_ble_eq_true rfl⟩) rfl hl.1 rfl (Nat.le_of_ble_eq_true rfl) dL_act_548 ⟨(by dsimp only; omega), (by dsimp only; omega)⟩ (fun H locs hW => ?_)
        refine lv_icmp_ne (tgt := 558) hx hb dL_act_551 (by decide) (fun h => absurd rfl h) (fun _ => ?_)
        refine lv_iconst (v := 1) hx hb dL_act_554 (by decide) ?_
        refine lv_goto (tgt := 559) hx hb dL_act_555 (by decide) ?_
        exact zg_z S hW hr hlk (ad2, (zup (zup (zup al 1 lq (al 1 lq - 10)) (17 + i) a (10 * al 2 lq)) (10 + i) 2 (nI (a + 1))), N, B) rfl (Or.inr rfl) ⟨rfl, hI.fill hi ha ho hlt (by omega) c461, (had2 0 (by omega)), (had2 28 (by omega))⟩ (by omega) (by omega) dL_act_559
      · refine lv_iconst (v := 1) hx hb dL_act_490 (by decide) ?_
        exact zg_z S hW hr hlk (ad, al, N, B) rfl (Or.inr rfl) ⟨rfl, hI, rfl, rfl⟩ (by omega) (by omega) dL_act_491

set_option maxHeartbeats 8000000 in
set_option maxRecDepth 100000 in
theorem act_sail {p : Program} {l : Launch} {e : Env} {s : State} {m : MethodId} {args : Array Value} {below : List Frame} {meth : Method} {c : Code} {D : va_G} {ad cy sa : Nat → Nat} {N B h : Nat} {al : Nat → Nat → Int32} {ex : Nat → va_E} {x : Int32} {H : Heap} {locs : List Loc} {ls : Array Slot} (S : CallFix p m c cL_act 17 s args wsL_act RL) (hE : ZEnv D cy sa (Acc (35 + 2 * N + B) ad s.heap.size) s) (hr : meth.sig.returnType = some .boolean) (hlk : meth.locks = false) (hfl : l.stackTraces = false) (hI : InvT al N B h) (hh3 : h < 2 ^ 20) (hW : WS D (35 + 2 * N + B) ad (sW cy ad N B al al ex) (Acc (35 + 2 * N + B) ad s.heap.size) s.heap H locs) {lq : Nat} (hlq : lq < 5) (hl : lv_has ls 17 [(0, .ref (ad 0)), (1, .ref (ad 28)), (2, .int x), (3, .int (nI N)), (4, .int (nI B)), (5, .int (nI lq))]) : W p l e ({ frames := 7, cells := 4, slots := 20, locals := 144 }) s m args below meth c H locs 0 0 (MQ below (QAct D (35 + 2 * N + B) ad cy s.heap.size h ex) args s 4 20 (Acc (35 + 2 * N + B) ad s.heap.size)) (F0 m 604 ls []) := by
  have hx := S.1
  have hb := S.2.1
  have hown := S.2.2.2.1
  have hts := S.2.2.2.2
  have hN := hI.1.1.1
  have hN6 := hI.1.1.2.1
  have hB := hI.1.1.2.2.1
  have hB4 := hI.1.1.2.2.2.1
  have hab := hI.1.ab
  have f15 := hts (.fieldLink RL 15 "PumiceSledgeLaw$Sim" "boats" "[[I") (by decide +kernel)
  have hi4 : ∀ w ∈ wsX40, w ∈ wsL_act := by decide +kernel
  have f82 := hts (.fieldLink RL 82 "PumiceSledgeLaw$Sim" "coins" "I") (by decide +kernel)
  refine lv_iload hx hb dL_act_604 (lv_at hl 4 rfl) ?_
  refine lv_if_eq (tgt := 626) hx hb dL_act_606 (by decide) (fun c606 => ?_) (fun c606 => ?_)
  · refine lv_iconst (v := 1) hx hb dL_act_626 (by decide) ?_
    exact zg_z S hW hr hlk (ad, al, N, B) rfl (Or.inr rfl) ⟨rfl, hI, rfl, rfl⟩ (by omega) (by omega) dL_act_627
  · have hB0 : 0 < B := Nat.pos_of_ne_zero (fun q => c606 (by rw [q]; exact nI_0))
    obtain ⟨b, hbx⟩ : ∃ b, blN x B = b := ⟨_, rfl⟩
    have hb9 : b < B := by rw [← hbx]; exact blN_lt hB0 (by omega)
    refine lv_aload_n hx hb dL_act_609 rfl (lv_at hl 1 rfl) ?_
    refine z_get (C := RX4) (T := TX4) (N := 9) (ci := 4) S hE hW hi4 rfl (by omega) sW_28 4 (by decide) rfl f15 (v := .ref (ad 34)) rfl dL_act_610 ?_
    refine lv_iload_n hx hb dL_act_613 rfl (lv_at hl 2 rfl) ?_
    refine lv_iload hx hb dL_act_614 (lv_at hl 4 rfl) ?_
    refine z_pS (As := [.int x, .int (nI B)]) (rest := [.ref (ad 34)]) S hE hW (cL_below_ok l x (nI B) (nI_ne0 (by omega) (by omega))) (va_cwS 2 hts gL_act_L_below rfl rfl rfl (by decide +kernel) ⟨Nat.le_of_ble_eq_true rfl, Nat.le_of_ble_eq_true rfl⟩) rfl hl.1 rfl (Nat.le_of_ble_eq_true rfl) dL_act_616 ⟨(by dsimp only; omega), (by dsimp only; omega)⟩ (fun H locs hW => ?_)
    refine z_top2 (y := nI b) ((blN_e rfl (by omega) (by omega)).trans (congrArg nI hbx)) ?_
    refine z_aldA S hE hW (by omega) sW_34 b rfl (by omega) (by omega) (v := .ref (ad (35 + 2 * N + b))) rfl dL_act_619 ?_
    refine z_cSi (As := [.ref (ad (35 + 2 * N + b))]) (rest := []) S hE hW (cX4_canSail_ok l D (35 + 2 * N + B) ad cy sa H.size N B (by omega) (by omega) (by omega) al al ex b (hb9)) (va_cwS 1 hts gL_act_X4_canSail rfl rfl rfl (by decide +kernel) ⟨Nat.le_of_ble_eq_true rfl, Nat.le_of_ble_eq_true rfl⟩) rfl hl.1 rfl (Nat.le_of_ble_eq_true rfl) dL_act_620 ⟨(by dsimp only; omega), (by dsimp only; omega)⟩ (fun r _ H locs hp hW => ?_)
    subst hp
    refine lv_if_ne (tgt := 628) hx hb dL_act_623 (by decide) (fun c623 => ?_) (fun c623 => ?_)
    · have c623 := zb_t c623
      refine lv_aload_n hx hb dL_act_628 rfl (lv_at hl 1 rfl) ?_
      refine z_get (C := RX4) (T := TX4) (N := 9) (ci := 4) S hE hW hi4 rfl (by omega) sW_28 4 (by decide) rfl f15 (v := .ref (ad 34)) rfl dL_act_629 ?_
      refine lv_iload_n hx hb dL_act_632 rfl (lv_at hl 2 rfl) ?_
      refine lv_iload hx hb dL_act_633 (lv_at hl 4 rfl) ?_
      refine z_pS (As := [.int x, .int (nI B)]) (rest := [.ref (ad 34)]) S hE hW (cL_below_ok l x (nI B) (nI_ne0 (by omega) (by omega))) (va_cwS 2 hts gL_act_L_below rfl rfl rfl (by decide +kernel) ⟨Nat.le_of_ble_eq_true rfl, Nat.le_of_ble_eq_true rfl⟩) rfl hl.1 rfl (Nat.le_of_ble_eq_true rfl) dL_act_635 ⟨(by dsimp only; omega), (by dsimp only; omega)⟩ (fun H locs hW => ?_)
      refine z_top2 (y := nI b) ((blN_e rfl (by omega) (by omega)).trans (congrArg nI hbx)) ?_
      refine z_aldA S hE hW (by omega) sW_34 b rfl (by omega) (by omega) (v := .ref (ad (35 + 2 * N + b))) rfl dL_act_638 ?_
      refine lv_astore (lv' := [(12, .ref (ad (35 + 2 * N + b))), (0, .ref (ad 0)), (1, .ref (ad 28)), (2, .int x), (3, .int (nI N)), (4, .int (nI B)), (5, .int (nI lq))]) hx hb dL_act_639 hl (by decide) rfl (fun ls hl => ?_)
      refine lv_aload hx hb dL_act_641 (lv_at hl 0 rfl) ?_
      refine lv_iconst (v := 1) hx hb dL_act_643 (by decide) ?_
      refine z_ald S hE hW (by omega) (sW_bb (b := b) hb9) 1 rfl (by decide) (by decide) (v := al (24 + b) 1) rfl dL_act_644 ?_
      refine lv_aload hx hb dL_act_645 (lv_at hl 0 rfl) ?_
      refine lv_iconst (v := 2) hx hb dL_act_647 (by decide) ?_
      refine z_ald S hE hW (by omega) (sW_bb (b := b) hb9) 2 rfl (by decide) (by decide) (v := al (24 + b) 2) rfl dL_act_648 ?_
      refine lv_iadd hx hb dL_act_649 ?_
      refine lv_bipush (v := 10) hx hb dL_act_650 (by decide) ?_
      refine lv_idiv hx hb dL_act_652 (by decide) ?_
      refine lv_iconst (v := 3) hx hb dL_act_653 (by decide) ?_
      refine lv_imul hx hb dL_act_654 ?_
      refine lv_istore (lv' := [(13, .int (((al (24 + b) 1 + al (24 + b) 2) / 10) * 3)), (12, .ref (ad (35 + 2 * N + b))), (0, .ref (ad 0)), (1, .ref (ad 28)), (2, .int x), (3, .int (nI N)), (4, .int (nI B)), (5, .int (nI lq))]) hx hb dL_act_655 hl (by decide) rfl (fun ls hl => ?_)
      refine lv_aload hx hb dL_act_657 (lv_at hl 1 rfl) ?_
      refine lv_iconst (v := 1) hx hb dL_act_659 (by decide) ?_
      refine lv_iconst (v := 0) hx hb dL_act_660 (by decide) ?_
      refine z_ast (ce' := sW cy ad N B al (zup al (24 + b) 1 0) ex) S hE hW (by omega) (sW_bb (b := b) hb9) 1 rfl (by decide) (by decide) (pS_b (i := b) hb9) (fun j h => oS_b hN6 h) dL_act_661 (fun H locs hW => ?_)
      refine lv_aload hx hb dL_act_662 (lv_at hl 1 rfl) ?_
      refine lv_iconst (v := 2) hx hb dL_act_664 (by decide) ?_
      refine lv_iconst (v := 0) hx hb dL_act_665 (by decide) ?_
      refine z_ast (ce' := sW cy ad N B al (zup (zup al (24 + b) 1 0) (24 + b) 2 0) ex) S hE hW (by omega) (sW_bb (b := b) hb9) 2 rfl (by decide) (by decide) (pS_b (i := b) hb9) (fun j h => oS_b hN6 h) dL_act_666 (fun H locs hW => ?_)
      refine lv_aload_n hx hb dL_act_667 rfl (lv_at hl 3 rfl) ?_
      refine lv_dup hx hb dL_act_668 rfl ?_
      refine z_get (C := RX4) (T := TX4) (N := 9) (ci := 4) S hE hW hi4 rfl (by omega) sW_28 7 (by decide) rfl f82 (v := .int (al 0 9)) (congrArg (fun z => some (Value.int z)) ((congrFun (zup_o (by omega)) 9).trans (congrFun (zup_o (by omega)) 9))) dL_act_669 ?_
      refine lv_iload hx hb dL_act_672 (lv_at hl 0 rfl) ?_
      refine lv_iadd hx hb dL_act_674 ?_
      refine z_put (ce' := sW cy ad N B al (zup (zup (zup al (24 + b) 1 0) (24 + b) 2 0) 0 9 (al 0 9 + (((al (24 + b) 1 + al (24 + b) 2) / 10) * 3))) ex) (C := RX4) (T := TX4) (N := 9) (ci := 4) S hE hW hi4 tyX4 tyX4_ok nmX4 rfl (by omega) sW_28 7 (by decide) rfl f82 rfl rfl (Nat.le_of_ble_eq_true rfl) (pS_0 (by decide)) (fun j h => oS_0 h) dL_act_675 (fun H locs hW => ?_)
      refine lv_aload_n hx hb dL_act_678 rfl (lv_at hl 2 rfl) ?_
      refine lv_iload_n hx hb dL_act_679 rfl (lv_at hl 4 rfl) ?_
      refine lv_iload hx hb dL_act_680 (lv_at hl 6 rfl) ?_
      refine z_pS (As := [.int x, .int (nI B)]) (rest := [.ref (ad 0)]) S hE hW (cL_below_ok l x (nI B) (nI_ne0 (by omega) (by omega))) (va_cwS 2 hts gL_act_L_below rfl rfl rfl (by decide +kernel) ⟨Nat.le_of_ble_eq_true rfl, Nat.le_of_ble_eq_true rfl⟩) rfl hl.1 rfl (Nat.le_of_ble_eq_true rfl) dL_act_682 ⟨(by dsimp only; omega), (by dsimp only; omega)⟩ (fun H locs hW => ?_)
      refine z_top2 (y := nI b) ((blN_e rfl (by omega) (by omega)).trans (congrArg nI hbx)) ?_
      have hcs : ¬ 20 < dep (al (24 + b) 1) (al (24 + b) 2) ∧ zIn (al (24 + b) 1 - al (24 + b) 2) (-100) 100 := by have h9 := c623; obtain ⟨L, f, t, h1, h2, h3, h4, h5⟩ := hI.2.1 b (by omega); have h8 := (h4 hb9); rw [h2, h3] at h9 ⊢; exact (sail_same (by omega) (by omega)).mp h9
      refine z_xVi (As := [.int (nI b)]) (rest := []) (k := 0) S hE hW (cX3_sail_ok l D (35 + 2 * N + B) ad cy sa H.size (by omega) al (exS cy ad N B (zup (zup (zup al (24 + b) 1 0) (24 + b) 2 0) 0 9 (al 0 9 + (((al (24 + b) 1 + al (24 + b) 2) / 10) * 3))) ex) (nI b) B hB hB4 hfl) (cwV 1 hts gL_act_X3_sail rfl rfl rfl (by decide +kernel) ⟨Nat.le_of_ble_eq_true rfl, Nat.le_of_ble_eq_true rfl⟩) (by omega) cC_0 rfl rfl rfl hl.1 rfl (Nat.le_of_ble_eq_true rfl) dL_act_685 ⟨(by dsimp only; omega), (by dsimp only; omega)⟩ (fun E x9 q9 H locs hbad hW hx9 hv9 hc9 => absurd hbad (zbad_0 (k0_sail hB hB4 hb9 hcs))) (fun r _ H locs hp hW => ?_)
      obtain ⟨-, rfl⟩ := hp
      rw [(show u_sail al (nI b) = (zup (zup (zup al (24 + b) 1 0) (24 + b) 2 0) 0 9 (al 0 9 + (((al (24 + b) 1 + al (24 + b) 2) / 10) * 3))) from by unfold u_sail; rw [ix_nI (show b < 2 ^ 31 by omega)])] at hW
      refine z_top2 (y := (((al (24 + b) 1 + al (24 + b) 2) / 10) * 3)) (by unfold v_sail; rw [ix_nI (show b < 2 ^ 31 by omega)]) ?_
      refine lv_iload hx hb dL_act_688 (lv_at hl 0 rfl) ?_
      refine lv_icmp_ne (tgt := 697) hx hb dL_act_690 (by decide) (fun h => absurd rfl h) (fun _ => ?_)
      refine lv_iconst (v := 1) hx hb dL_act_693 (by decide) ?_
      refine lv_goto (tgt := 698) hx hb dL_act_694 (by decide) ?_
      exact zg_z S hW hr hlk (ad, (zup (zup (zup al (24 + b) 1 0) (24 + b) 2 0) 0 9 (al 0 9 + (((al (24 + b) 1 + al (24 + b) 2) / 10) * 3))), N, B) rfl (Or.inr rfl) ⟨rfl, hI.sail hb9, rfl, rfl⟩ (by omega) (by omega) dL_act_698
    · have c623 := zb_f c623
      refine lv_iconst (v := 1) hx hb dL_act_626 (by decide) ?_
      exact zg_z S hW hr hlk (ad, al, N, B) rfl (Or.inr rfl) ⟨rfl, hI, rfl, rfl⟩ (by omega) (by omega) dL_act_627

set_option maxHeartbeats 8000000 in
set_option maxRecDepth 100000 in
theorem act_stow {p : Program} {l : Launch} {e : Env} {s : State} {m : MethodId} {args : Array Value} {below : List Frame} {meth : Method} {c : Code} {D : va_G} {ad cy sa : Nat → Nat} {N B h : Nat} {al : Nat → Nat → Int32} {ex : Nat → va_E} {x : Int32} {H : Heap} {locs : List Loc} {ls : Array Slot} (S : CallFix p m c cL_act 17 s args wsL_act RL) (hE : ZEnv D cy sa (Acc (35 + 2 * N + B) ad s.heap.size) s) (hr : meth.sig.returnType = some .boolean) (hlk : meth.locks = false) (hfl : l.stackTraces = false) (hI : InvT al N B h) (hh3 : h < 2 ^ 20) (hW : WS D (35 + 2 * N + B) ad (sW cy ad N B al al ex) (Acc (35 + 2 * N + B) ad s.heap.size) s.heap H locs) {lq : Nat} (hlq : lq < 5) (hl : lv_has ls 17 [(0, .ref (ad 0)), (1, .ref (ad 28)), (2, .int x), (3, .int (nI N)), (4, .int (nI B)), (5, .int (nI lq))]) : W p l e ({ frames := 7, cells := 4, slots := 20, locals := 144 }) s m args below meth c H locs 0 0 (MQ below (QAct D (35 + 2 * N + B) ad cy s.heap.size h ex) args s 4 20 (Acc (35 + 2 * N + B) ad s.heap.size)) (F0 m 699 ls []) := by
  have hx := S.1
  have hb := S.2.1
  have hown := S.2.2.2.1
  have hts := S.2.2.2.2
  have hN := hI.1.1.1
  have hN6 := hI.1.1.2.1
  have hB := hI.1.1.2.2.1
  have hB4 := hI.1.1.2.2.2.1
  have hab := hI.1.ab
  have f88 := hts (.fieldLink RL 88 "PumiceSledgeLaw$Sim" "beach" "[I") (by decide +kernel)
  have hi4 : ∀ w ∈ wsX40, w ∈ wsL_act := by decide +kernel
  have f15 := hts (.fieldLink RL 15 "PumiceSledgeLaw$Sim" "boats" "[[I") (by decide +kernel)
  refine lv_iload_n hx hb dL_act_699 rfl (lv_at hl 2 rfl) ?_
  refine lv_iconst (v := 3) hx hb dL_act_700 (by decide) ?_
  refine lv_ishr hx hb dL_act_701 ?_
  refine lv_iconst (v := 3) hx hb dL_act_702 (by decide) ?_
  refine z_pS (As := [.int (x >>> (3 &&& 31)), .int 3]) (rest := []) S hE hW (cL_below_ok l (x >>> (3 &&& 31)) 3 (by decide)) (va_cwS 2 hts gL_act_L_below rfl rfl rfl (by decide +kernel) ⟨Nat.le_of_ble_eq_true rfl, Nat.le_of_ble_eq_true rfl⟩) rfl hl.1 rfl (Nat.le_of_ble_eq_true rfl) dL_act_703 ⟨(by dsimp only; omega), (by dsimp only; omega)⟩ (fun H locs hW => ?_)
  obtain ⟨j703, hj703, hbj703⟩ : ∃ j, blw (x >>> (3 &&& 31)) 3 = nI j ∧ j < 3 := ⟨_, blN_e rfl (by decide) (by decide), blN_lt (by decide) (by decide)⟩
  refine z_top2 (y := nI j703) hj703 ?_
  refine lv_istore (lv' := [(14, .int (nI j703)), (0, .ref (ad 0)), (1, .ref (ad 28)), (2, .int x), (3, .int (nI N)), (4, .int (nI B)), (5, .int (nI lq))]) hx hb dL_act_706 hl (by decide) rfl (fun ls hl => ?_)
  refine lv_iload hx hb dL_act_708 (lv_at hl 5 rfl) ?_
  refine lv_if_eq (tgt := 723) hx hb dL_act_710 (by decide) (fun c710 => ?_) (fun c710 => ?_)
  · refine lv_iconst (v := 1) hx hb dL_act_723 (by decide) ?_
    exact zg_z S hW hr hlk (ad, al, N, B) rfl (Or.inr rfl) ⟨rfl, hI, rfl, rfl⟩ (by omega) (by omega) dL_act_724
  · have hB0 : 0 < B := Nat.pos_of_ne_zero (fun q => c710 (by rw [q]; exact nI_0))
    obtain ⟨b, hbx⟩ : ∃ b, blN x B = b := ⟨_, rfl⟩
    have hb9 : b < B := by rw [← hbx]; exact blN_lt hB0 (by omega)
    refine lv_aload_n hx hb dL_act_713 rfl (lv_at hl 2 rfl) ?_
    refine z_get (C := RX4) (T := TX4) (N := 9) (ci := 4) S hE hW hi4 rfl (by omega) sW_28 5 (by decide) rfl f88 (v := .ref (ad 32)) rfl dL_act_714 ?_
    refine lv_iload hx hb dL_act_717 (lv_at hl 0 rfl) ?_
    refine z_ald S hE hW (by omega) sW_32 j703 rfl (by omega) (by decide) (v := al (8 + 0) j703) rfl dL_act_719 ?_
    refine lv_if_ne (tgt := 725) hx hb dL_act_720 (by decide) (fun c720 => ?_) (fun c720 => ?_)
    · refine lv_aload_n hx hb dL_act_725 rfl (lv_at hl 2 rfl) ?_
      refine z_get (C := RX4) (T := TX4) (N := 9) (ci := 4) S hE hW hi4 rfl (by omega) sW_28 4 (by decide) rfl f15 (v := .ref (ad 34)) rfl dL_act_726 ?_
      refine lv_iload_n hx hb dL_act_729 rfl (lv_at hl 3 rfl) ?_
      refine lv_iload hx hb dL_act_730 (lv_at hl 5 rfl) ?_
      refine z_pS (As := [.int x, .int (nI B)]) (rest := [.ref (ad 34)]) S hE hW (cL_below_ok l x (nI B) (nI_ne0 (by omega) (by omega))) (va_cwS 2 hts gL_act_L_below rfl rfl rfl (by decide +kernel) ⟨Nat.le_of_ble_eq_true rfl, Nat.le_of_ble_eq_true rfl⟩) rfl hl.1 rfl (Nat.le_of_ble_eq_true rfl) dL_act_732 ⟨(by dsimp only; omega), (by dsimp only; omega)⟩ (fun H locs hW => ?_)
      refine z_top2 (y := nI b) ((blN_e rfl (by omega) (by omega)).trans (congrArg nI hbx)) ?_
      refine z_aldA S hE hW (by omega) sW_34 b rfl (by omega) (by omega) (v := .ref (ad (35 + 2 * N + b))) rfl dL_act_735 ?_
      refine lv_astore (lv' := [(15, .ref (ad (35 + 2 * N + b))), (14, .int (nI j703)), (0, .ref (ad 0)), (1, .ref (ad 28)), (2, .int x), (3, .int (nI N)), (4, .int (nI B)), (5, .int (nI lq))]) hx hb dL_act_736 hl (by decide) rfl (fun ls hl => ?_)
      refine lv_aload hx hb dL_act_738 (lv_at hl 0 rfl) ?_
      refine lv_iconst (v := 1) hx hb dL_act_740 (by decide) ?_
      refine z_ald S hE hW (by omega) (sW_bb (b := b) hb9) 1 rfl (by decide) (by decide) (v := al (24 + b) 1) rfl dL_act_741 ?_
      refine lv_aload hx hb dL_act_742 (lv_at hl 0 rfl) ?_
      refine lv_iconst (v := 2) hx hb dL_act_744 (by decide) ?_
      refine z_ald S hE hW (by omega) (sW_bb (b := b) hb9) 2 rfl (by decide) (by decide) (v := al (24 + b) 2) rfl dL_act_745 ?_
      refine lv_iadd hx hb dL_act_746 ?_
      refine lv_iload hx hb dL_act_747 (lv_at hl 1 rfl) ?_
      refine z_pS (As := [.int (nI j703)]) (rest := [.int (al (24 + b) 1 + al (24 + b) 2)]) S hE hW (cL_stowed_ok l (nI j703)) (va_cwS 1 hts gL_act_L_stowed rfl rfl rfl (by decide +kernel) ⟨Nat.le_of_ble_eq_true rfl, Nat.le_of_ble_eq_true rfl⟩) rfl hl.1 rfl (Nat.le_of_ble_eq_true rfl) dL_act_749 ⟨(by dsimp only; omega), (by dsimp only; omega)⟩ (fun H locs hW => ?_)
      refine lv_iadd hx hb dL_act_752 ?_
      refine lv_aload hx hb dL_act_753 (lv_at hl 0 rfl) ?_
      refine lv_iconst (v := 0) hx hb dL_act_755 (by decide) ?_
      refine z_ald S hE hW (by omega) (sW_bb (b := b) hb9) 0 rfl (by decide) (by decide) (v := al (24 + b) 0) rfl dL_act_756 ?_
      refine lv_icmp_le (tgt := 762) hx hb dL_act_757 (by decide) (fun c757 => ?_) (fun c757 => ?_)
      · refine lv_iload_n hx hb dL_act_762 rfl (lv_at hl 4 rfl) ?_
        refine lv_iconst (v := 5) hx hb dL_act_763 (by decide) ?_
        refine lv_ishr hx hb dL_act_764 ?_
        refine lv_iconst (v := 2) hx hb dL_act_765 (by decide) ?_
        refine z_pS (As := [.int (x >>> (5 &&& 31)), .int 2]) (rest := []) S hE hW (cL_below_ok l (x >>> (5 &&& 31)) 2 (by decide)) (va_cwS 2 hts gL_act_L_below rfl rfl rfl (by decide +kernel) ⟨Nat.le_of_ble_eq_true rfl, Nat.le_of_ble_eq_true rfl⟩) rfl hl.1 rfl (Nat.le_of_ble_eq_true rfl) dL_act_766 ⟨(by dsimp only; omega), (by dsimp only; omega)⟩ (fun H locs hW => ?_)
        obtain ⟨j766, hj766, hbj766⟩ : ∃ j, blw (x >>> (5 &&& 31)) 2 = nI j ∧ j < 2 := ⟨_, blN_e rfl (by decide) (by decide), blN_lt (by decide) (by decide)⟩
        refine z_top2 (y := nI j766) hj766 ?_
        refine lv_if_ne (tgt := 776) hx hb dL_act_769 (by decide) (fun c769 => ?_) (fun c769 => ?_)
        · refine lv_iconst (v := 0) hx hb dL_act_776 (by decide) ?_
          refine lv_istore (lv' := [(16, .int 0), (15, .ref (ad (35 + 2 * N + b))), (14, .int (nI j703)), (0, .ref (ad 0)), (1, .ref (ad 28)), (2, .int x), (3, .int (nI N)), (4, .int (nI B)), (5, .int (nI lq))]) hx hb dL_act_777 hl (by decide) rfl (fun ls hl => ?_)
          refine lv_aload_n hx hb dL_act_779 rfl (lv_at hl 4 rfl) ?_
          refine z_get (C := RX4) (T := TX4) (N := 9) (ci := 4) S hE hW hi4 rfl (by omega) sW_28 5 (by decide) rfl f88 (v := .ref (ad 32)) rfl dL_act_780 ?_
          refine lv_iload hx hb dL_act_783 (lv_at hl 2 rfl) ?_
          refine lv_dup2_11 hx hb dL_act_785 rfl rfl ?_
          refine z_ald S hE hW (by omega) sW_32 j703 rfl (by omega) (by decide) (v := al (8 + 0) j703) rfl dL_act_786 ?_
          refine lv_iconst (v := 1) hx hb dL_act_787 (by decide) ?_
          refine lv_isub hx hb dL_act_788 ?_
          refine z_ast (ce' := sW cy ad N B al (zup al (8 + 0) j703 (al (8 + 0) j703 - 1)) ex) S hE hW (by omega) sW_32 j703 rfl (by omega) (by decide) pS_8 (fun j h => oS_8 h) dL_act_789 (fun H locs hW => ?_)
          refine lv_aload hx hb dL_act_790 (lv_at hl 1 rfl) ?_
          refine lv_iload hx hb dL_act_792 (lv_at hl 0 rfl) ?_
          refine lv_if_eq (tgt := 801) hx hb dL_act_794 (by decide) (fun _ => ?_) (fun h => absurd (by decide) h)
          refine lv_iconst (v := 2) hx hb dL_act_801 (by decide) ?_
          refine lv_dup2_11 hx hb dL_act_802 rfl rfl ?_
          refine z_ald S hE hW (by omega) (sW_bb (b := b) hb9) 2 rfl (by decide) (by decide) (v := al (24 + b) 2) (congrFun (zup_o (by omega)) 2) dL_act_803 ?_
          refine lv_iload hx hb dL_act_804 (lv_at hl 2 rfl) ?_
          refine z_pS (As := [.int (nI j703)]) (rest := [.int (al (24 + b) 2), .int 2, .ref (ad (35 + 2 * N + b))]) S hE hW (cL_stowed_ok l (nI j703)) (va_cwS 1 hts gL_act_L_stowed rfl rfl rfl (by decide +kernel) ⟨Nat.le_of_ble_eq_true rfl, Nat.le_of_ble_eq_true rfl⟩) rfl hl.1 rfl (Nat.le_of_ble_eq_true rfl) dL_act_806 ⟨(by dsimp only; omega), (by dsimp only; omega)⟩ (fun H locs hW => ?_)
          refine lv_iadd hx hb dL_act_809 ?_
          refine z_ast (ce' := sW cy ad N B al (zup (zup al (8 + 0) j703 (al (8 + 0) j703 - 1)) (24 + b) 2 (al (24 + b) 2 + stL (nI j703))) ex) S hE hW (by omega) (sW_bb (b := b) hb9) 2 rfl (by decide) (by decide) (pS_b (i := b) hb9) (fun j h => oS_b hN6 h) dL_act_810 (fun H locs hW => ?_)
          refine lv_aload_n hx hb dL_act_811 rfl (lv_at hl 3 rfl) ?_
          refine lv_iload_n hx hb dL_act_812 rfl (lv_at hl 5 rfl) ?_
          refine lv_iload hx hb dL_act_813 (lv_at hl 7 rfl) ?_
          refine z_pS (As := [.int x, .int (nI B)]) (rest := [.ref (ad 0)]) S hE hW (cL_below_ok l x (nI B) (nI_ne0 (by omega) (by omega))) (va_cwS 2 hts gL_act_L_below rfl rfl rfl (by decide +kernel) ⟨Nat.le_of_ble_eq_true rfl, Nat.le_of_ble_eq_true rfl⟩) rfl hl.1 rfl (Nat.le_of_ble_eq_true rfl) dL_act_815 ⟨(by dsimp only; omega), (by dsimp only; omega)⟩ (fun H locs hW => ?_)
          refine z_top2 (y := nI b) ((blN_e rfl (by omega) (by omega)).trans (congrArg nI hbx)) ?_
          refine lv_iload hx hb dL_act_818 (lv_at hl 2 rfl) ?_
          refine lv_iload hx hb dL_act_820 (lv_at hl 0 rfl) ?_
          obtain ⟨cz, hcz, hcz2⟩ := hI.1.2.2.2.2.2 j703 (by omega)
          have hus : ∀ z : Int32, z = 0 → u_stow al (nI b) (nI j703) z = (zup (zup al (8 + 0) j703 (al (8 + 0) j703 - 1)) (24 + b) 2 (al (24 + b) 2 + stL (nI j703))) := fun z hz => by subst hz; unfold u_stow; rw [ix_nI (show b < 2 ^ 31 by omega), ix_nI (show j703 < 2 ^ 31 by omega), if_pos (by decide), ← stL_stw (by omega)]
          refine z_xVi (As := [.int (nI b), .int (nI j703), .int 0]) (rest := []) (k := 0) S hE hW (cX3_stow_ok l D (35 + 2 * N + B) ad cy sa H.size (by omega) al (exS cy ad N B (zup (zup al (8 + 0) j703 (al (8 + 0) j703 - 1)) (24 + b) 2 (al (24 + b) 2 + stL (nI j703))) ex) (nI b) (nI j703) 0 B hB hB4 hfl) (cwV 3 hts gL_act_X3_stow rfl rfl rfl (by decide +kernel) ⟨Nat.le_of_ble_eq_true rfl, Nat.le_of_ble_eq_true rfl⟩) (by omega) cC_0 rfl rfl rfl hl.1 rfl (Nat.le_of_ble_eq_true rfl) dL_act_822 ⟨(by dsimp only; omega), (by dsimp only; omega)⟩ (fun E x9 q9 H locs hbad hW hx9 hv9 hc9 => absurd hbad (zbad_0 (k0_stow hB hB4 hb9 (by omega) hcz (by omega) (by rw [← hcz]; exact c720) (hI.2.1 b (by omega)) c757))) (fun r _ H locs hp hW => ?_)
          obtain ⟨-, rfl⟩ := hp
          rw [hus _ rfl] at hW
          refine z_top2 (y := (al (24 + b) 1 - (al (24 + b) 2 + stL (nI j703)))) (by unfold v_stow; rw [hus _ rfl, ix_nI (show b < 2 ^ 31 by omega), ((congrFun zup_k 1).trans ((up_n (by decide)).trans (congrFun (zup_o (by omega)) 1))), (((congrFun zup_k 2).trans up_s))]) ?_
          refine lv_aload hx hb dL_act_825 (lv_at hl 1 rfl) ?_
          refine lv_iconst (v := 1) hx hb dL_act_827 (by decide) ?_
          refine z_ald S hE hW (by omega) (sW_bb (b := b) hb9) 1 rfl (by decide) (by decide) (v := al (24 + b) 1) (((congrFun zup_k 1).trans (up_n (by decide))).trans (congrFun (zup_o (by omega)) 1)) dL_act_828 ?_
          refine lv_aload hx hb dL_act_829 (lv_at hl 1 rfl) ?_
          refine lv_iconst (v := 2) hx hb dL_act_831 (by decide) ?_
          refine z_ald S hE hW (by omega) (sW_bb (b := b) hb9) 2 rfl (by decide) (by decide) (v := (al (24 + b) 2 + stL (nI j703))) ((congrFun zup_k 2).trans up_s) dL_act_832 ?_
          refine lv_isub hx hb dL_act_833 ?_
          refine lv_icmp_ne (tgt := 841) hx hb dL_act_834 (by decide) (fun h => absurd rfl h) (fun _ => ?_)
          refine lv_iconst (v := 1) hx hb dL_act_837 (by decide) ?_
          refine lv_goto (tgt := 842) hx hb dL_act_838 (by decide) ?_
          exact zg_z S hW hr hlk (ad, (zup (zup al (8 + 0) j703 (al (8 + 0) j703 - 1)) (24 + b) 2 (al (24 + b) 2 + stL (nI j703))), N, B) rfl (Or.inr rfl) ⟨rfl, hI.stow hb9 (by omega) c720 (by decide) c757, rfl, rfl⟩ (by omega) (by omega) dL_act_842
        · refine lv_iconst (v := 1) hx hb dL_act_772 (by decide) ?_
          refine lv_goto (tgt := 777) hx hb dL_act_773 (by decide) ?_
          refine lv_istore (lv' := [(16, .int 1), (15, .ref (ad (35 + 2 * N + b))), (14, .int (nI j703)), (0, .ref (ad 0)), (1, .ref (ad 28)), (2, .int x), (3, .int (nI N)), (4, .int (nI B)), (5, .int (nI lq))]) hx hb dL_act_777 hl (by decide) rfl (fun ls hl => ?_)
          refine lv_aload_n hx hb dL_act_779 rfl (lv_at hl 4 rfl) ?_
          refine z_get (C := RX4) (T := TX4) (N := 9) (ci := 4) S hE hW hi4 rfl (by omega) sW_28 5 (by decide) rfl f88 (v := .ref (ad 32)) rfl dL_act_780 ?_
          refine lv_iload hx hb dL_act_783 (lv_at hl 2 rfl) ?_
          refine lv_dup2_11 hx hb dL_act_785 rfl rfl ?_
          refine z_ald S hE hW (by omega) sW_32 j703 rfl (by omega) (by decide) (v := al (8 + 0) j703) rfl dL_act_786 ?_
          refine lv_iconst (v := 1) hx hb dL_act_787 (by decide) ?_
          refine lv_isub hx hb dL_act_788 ?_
          refine z_ast (ce' := sW cy ad N B al (zup al (8 + 0) j703 (al (8 + 0) j703 - 1)) ex) S hE hW (by omega) sW_32 j703 rfl (by omega) (by decide) pS_8 (fun j h => oS_8 h) dL_act_789 (fun H locs hW => ?_)
          refine lv_aload hx hb dL_act_790 (lv_at hl 1 rfl) ?_
          refine lv_iload hx hb dL_act_792 (lv_at hl 0 rfl) ?_
          refine lv_if_eq (tgt := 801) hx hb dL_act_794 (by decide) (fun h => absurd h (by decide)) (fun _ => ?_)
          refine lv_iconst (v := 1) hx hb dL_act_797 (by decide) ?_
          refine lv_goto (tgt := 802) hx hb dL_act_798 (by decide) ?_
          refine lv_dup2_11 hx hb dL_act_802 rfl rfl ?_
          refine z_ald S hE hW (by omega) (sW_bb (b := b) hb9) 1 rfl (by decide) (by decide) (v := al (24 + b) 1) (congrFun (zup_o (by omega)) 1) dL_act_803 ?_
          refine lv_iload hx hb dL_act_804 (lv_at hl 2 rfl) ?_
          refine z_pS (As := [.int (nI j703)]) (rest := [.int (al (24 + b) 1), .int 1, .ref (ad (35 + 2 * N + b))]) S hE hW (cL_stowed_ok l (nI j703)) (va_cwS 1 hts gL_act_L_stowed rfl rfl rfl (by decide +kernel) ⟨Nat.le_of_ble_eq_true rfl, Nat.le_of_ble_eq_true rfl⟩) rfl hl.1 rfl (Nat.le_of_ble_eq_true rfl) dL_act_806 ⟨(by dsimp only; omega), (by dsimp only; omega)⟩ (fun H locs hW => ?_)
          refine lv_iadd hx hb dL_act_809 ?_
          refine z_ast (ce' := sW cy ad N B al (zup (zup al (8 + 0) j703 (al (8 + 0) j703 - 1)) (24 + b) 1 (al (24 + b) 1 + stL (nI j703))) ex) S hE hW (by omega) (sW_bb (b := b) hb9) 1 rfl (by decide) (by decide) (pS_b (i := b) hb9) (fun j h => oS_b hN6 h) dL_act_810 (fun H locs hW => ?_)
          refine lv_aload_n hx hb dL_act_811 rfl (lv_at hl 3 rfl) ?_
          refine lv_iload_n hx hb dL_act_812 rfl (lv_at hl 5 rfl) ?_
          refine lv_iload hx hb dL_act_813 (lv_at hl 7 rfl) ?_
          refine z_pS (As := [.int x, .int (nI B)]) (rest := [.ref (ad 0)]) S hE hW (cL_below_ok l x (nI B) (nI_ne0 (by omega) (by omega))) (va_cwS 2 hts gL_act_L_below rfl rfl rfl (by decide +kernel) ⟨Nat.le_of_ble_eq_true rfl, Nat.le_of_ble_eq_true rfl⟩) rfl hl.1 rfl (Nat.le_of_ble_eq_true rfl) dL_act_815 ⟨(by dsimp only; omega), (by dsimp only; omega)⟩ (fun H locs hW => ?_)
          refine z_top2 (y := nI b) ((blN_e rfl (by omega) (by omega)).trans (congrArg nI hbx)) ?_
          refine lv_iload hx hb dL_act_818 (lv_at hl 2 rfl) ?_
          refine lv_iload hx hb dL_act_820 (lv_at hl 0 rfl) ?_
          obtain ⟨cz, hcz, hcz2⟩ := hI.1.2.2.2.2.2 j703 (by omega)
          have hus : ∀ z : Int32, z = 1 → u_stow al (nI b) (nI j703) z = (zup (zup al (8 + 0) j703 (al (8 + 0) j703 - 1)) (24 + b) 1 (al (24 + b) 1 + stL (nI j703))) := fun z hz => by subst hz; unfold u_stow; rw [ix_nI (show b < 2 ^ 31 by omega), ix_nI (show j703 < 2 ^ 31 by omega), if_neg (by decide), ← stL_stw (by omega)]
          refine z_xVi (As := [.int (nI b), .int (nI j703), .int 1]) (rest := []) (k := 0) S hE hW (cX3_stow_ok l D (35 + 2 * N + B) ad cy sa H.size (by omega) al (exS cy ad N B (zup (zup al (8 + 0) j703 (al (8 + 0) j703 - 1)) (24 + b) 1 (al (24 + b) 1 + stL (nI j703))) ex) (nI b) (nI j703) 1 B hB hB4 hfl) (cwV 3 hts gL_act_X3_stow rfl rfl rfl (by decide +kernel) ⟨Nat.le_of_ble_eq_true rfl, Nat.le_of_ble_eq_true rfl⟩) (by omega) cC_0 rfl rfl rfl hl.1 rfl (Nat.le_of_ble_eq_true rfl) dL_act_822 ⟨(by dsimp only; omega), (by dsimp only; omega)⟩ (fun E x9 q9 H locs hbad hW hx9 hv9 hc9 => absurd hbad (zbad_0 (k0_stow hB hB4 hb9 (by omega) hcz (by omega) (by rw [← hcz]; exact c720) (hI.2.1 b (by omega)) c757))) (fun r _ H locs hp hW => ?_)
          obtain ⟨-, rfl⟩ := hp
          rw [hus _ rfl] at hW
          refine z_top2 (y := ((al (24 + b) 1 + stL (nI j703)) - al (24 + b) 2)) (by unfold v_stow; rw [hus _ rfl, ix_nI (show b < 2 ^ 31 by omega), (((congrFun zup_k 1).trans up_s)), ((congrFun zup_k 2).trans ((up_n (by decide)).trans (congrFun (zup_o (by omega)) 2)))]) ?_
          refine lv_aload hx hb dL_act_825 (lv_at hl 1 rfl) ?_
          refine lv_iconst (v := 1) hx hb dL_act_827 (by decide) ?_
          refine z_ald S hE hW (by omega) (sW_bb (b := b) hb9) 1 rfl (by decide) (by decide) (v := (al (24 + b) 1 + stL (nI j703))) ((congrFun zup_k 1).trans up_s) dL_act_828 ?_
          refine lv_aload hx hb dL_act_829 (lv_at hl 1 rfl) ?_
          refine lv_iconst (v := 2) hx hb dL_act_831 (by decide) ?_
          refine z_ald S hE hW (by omega) (sW_bb (b := b) hb9) 2 rfl (by decide) (by decide) (v := al (24 + b) 2) (((congrFun zup_k 2).trans (up_n (by decide))).trans (congrFun (zup_o (by omega)) 2)) dL_act_832 ?_
          refine lv_isub hx hb dL_act_833 ?_
          refine lv_icmp_ne (tgt := 841) hx hb dL_act_834 (by decide) (fun h => absurd rfl h) (fun _ => ?_)
          refine lv_iconst (v := 1) hx hb dL_act_837 (by decide) ?_
          refine lv_goto (tgt := 842) hx hb dL_act_838 (by decide) ?_
          exact zg_z S hW hr hlk (ad, (zup (zup al (8 + 0) j703 (al (8 + 0) j703 - 1)) (24 + b) 1 (al (24 + b) 1 + stL (nI j703))), N, B) rfl (Or.inr rfl) ⟨rfl, hI.stow hb9 (by omega) c720 (by decide) c757, rfl, rfl⟩ (by omega) (by omega) dL_act_842
      · refine lv_iconst (v := 1) hx hb dL_act_760 (by decide) ?_
        exact zg_z S hW hr hlk (ad, al, N, B) rfl (Or.inr rfl) ⟨rfl, hI, rfl, rfl⟩ (by omega) (by omega) dL_act_761
    · refine lv_iconst (v := 1) hx hb dL_act_723 (by decide) ?_
      exact zg_z S hW hr hlk (ad, al, N, B) rfl (Or.inr rfl) ⟨rfl, hI, rfl, rfl⟩ (by omega) (by omega) dL_act_724
