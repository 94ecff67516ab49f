/-! What the law does by a number. -/
set_option maxHeartbeats 8000000 in
set_option maxRecDepth 100000 in
theorem cL_act_ok (l : Launch) (D : va_G) (ad cy sa : Nat → Nat) (sz N B h : Nat) (al : Nat → Nat → Int32) (ex : Nat → va_E) (hI : InvT al N B h) (hh3 : h < 2 ^ 20) (x : Int32) (hfl : l.stackTraces = false) : Met l yL_act wsL_act ({ frames := 7, cells := 4, slots := 20, locals := 144 }) (PW D (35 + 2 * N + B) ad cy sa sz (sW cy ad N B al al ex) [.ref (ad 0), .ref (ad 28), .int x]) (QAct D (35 + 2 * N + B) ad cy sz h ex) 4 20 (Acc (35 + 2 * N + B) ad sz) := by
  refine zs_met (cc := cL_act) (maxL := 17) (ret := (some .boolean)) (own := RL) (by decide) rfl rfl (Nat.le_of_ble_eq_true rfl) ?_
  intro p e s m args below meth c ls S hE hW hr hlk hsz hav hl
  subst hsz
  have hx := S.1
  have hb := S.2.1
  have hown := S.2.2.2.1
  have hts := S.2.2.2.2
  have hl : lv_has ls 17 [(0, .ref (ad 0)), (1, .ref (ad 28)), (2, .int x)] := hl
  have hN6 := hI.1.1.2.1
  have hB4 := hI.1.1.2.2.2.1
  have f9 := hts (.fieldLink RL 9 "PumiceSledgeLaw$Sim" "sledges" "[LPumiceSledgeLaw$Sledge;") (by decide +kernel)
  have hi4 : ∀ w ∈ wsX40, w ∈ wsL_act := by decide +kernel
  have f15 := hts (.fieldLink RL 15 "PumiceSledgeLaw$Sim" "boats" "[[I") (by decide +kernel)
  refine lv_aload_n hx hb dL_act_0 rfl (lv_at hl 1 rfl) ?_
  refine z_get (C := RX4) (T := TX4) (N := 9) (ci := 4) S hE hW hi4 rfl (by omega) sW_28 3 (by decide) rfl f9 (v := .ref (ad 33)) rfl dL_act_1 ?_
  refine z_alenG (t0 := 4) S hE hW (by omega) sW_33 rfl (v := nI N) rfl dL_act_4 ?_
  refine lv_istore_n (lv' := [(3, .int (nI N)), (0, .ref (ad 0)), (1, .ref (ad 28)), (2, .int x)]) hx hb dL_act_5 rfl hl (by decide) rfl (fun ls hl => ?_)
  refine lv_aload_n hx hb dL_act_6 rfl (lv_at hl 2 rfl) ?_
  refine z_get (C := RX4) (T := TX4) (N := 9) (ci := 4) S hE hW hi4 rfl (by omega) sW_28 4 (by decide) rfl f15 (v := .ref (ad 34)) rfl dL_act_7 ?_
  refine z_alenG (t0 := 3) S hE hW (by omega) sW_34 rfl (v := nI B) rfl dL_act_10 ?_
  refine lv_istore (lv' := [(4, .int (nI B)), (3, .int (nI N)), (0, .ref (ad 0)), (1, .ref (ad 28)), (2, .int x)]) hx hb dL_act_11 hl (by decide) rfl (fun ls hl => ?_)
  refine lv_iload_n hx hb dL_act_13 rfl (lv_at hl 4 rfl) ?_
  refine lv_iconst (v := 2) hx hb dL_act_14 (by decide) ?_
  refine lv_ishr hx hb dL_act_15 ?_
  refine lv_iconst (v := 5) hx hb dL_act_16 (by decide) ?_
  refine z_pS (As := [.int (x >>> (2 &&& 31)), .int 5]) (rest := []) S hE hW (cL_below_ok l (x >>> (2 &&& 31)) 5 (by decide)) (va_cwS 2 hts gL_act_L_below rfl rfl rfl (by decide +kernel) ⟨Nat.le_of_ble_eq_true rfl, Nat.le_of_ble_eq_true rfl⟩) rfl hl.1 rfl (Nat.le_of_ble_eq_true rfl) dL_act_17 ⟨(by dsimp only; omega), (by dsimp only; omega)⟩ (fun H locs hW => ?_)
  obtain ⟨j17, hj17, hbj17⟩ : ∃ j, blw (x >>> (2 &&& 31)) 5 = nI j ∧ j < 5 := ⟨_, blN_e rfl (by decide) (by decide), blN_lt (by decide) (by decide)⟩
  refine z_top2 (y := nI j17) hj17 ?_
  refine lv_istore (lv' := [(5, .int (nI j17)), (4, .int (nI B)), (3, .int (nI N)), (0, .ref (ad 0)), (1, .ref (ad 28)), (2, .int x)]) hx hb dL_act_20 hl (by decide) rfl (fun ls hl => ?_)
  refine lv_iload_n hx hb dL_act_22 rfl (lv_at hl 2 rfl) ?_
  refine lv_if_ne (tgt := 30) hx hb dL_act_23 (by decide) (fun c23 => ?_) (fun c23 => ?_)
  · have hN0 : 0 < N := Nat.pos_of_ne_zero (fun q => c23 (by rw [q]; exact nI_0))
    obtain ⟨i, hix⟩ : ∃ i, blN x N = i := ⟨_, rfl⟩
    have hi : i < N := by rw [← hix]; exact blN_lt hN0 (by omega)
    refine lv_aload_n hx hb dL_act_30 rfl (lv_at hl 4 rfl) ?_
    refine z_get (C := RX4) (T := TX4) (N := 9) (ci := 4) S hE hW hi4 rfl (by omega) sW_28 3 (by decide) rfl f9 (v := .ref (ad 33)) rfl dL_act_31 ?_
    refine lv_iload_n hx hb dL_act_34 rfl (lv_at hl 5 rfl) ?_
    refine lv_iload_n hx hb dL_act_35 rfl (lv_at hl 2 rfl) ?_
    refine z_pS (As := [.int x, .int (nI N)]) (rest := [.ref (ad 33)]) S hE hW (cL_below_ok l x (nI N) (nI_ne0 (by omega) (by omega))) (va_cwS 2 hts gL_act_L_below rfl rfl rfl (by decide +kernel) ⟨Nat.le_of_ble_eq_true rfl, Nat.le_of_ble_eq_true rfl⟩) rfl hl.1 rfl (Nat.le_of_ble_eq_true rfl) dL_act_36 ⟨(by dsimp only; omega), (by dsimp only; omega)⟩ (fun H locs hW => ?_)
    refine z_top2 (y := nI i) ((blN_e rfl (by omega) (by omega)).trans (congrArg nI hix)) ?_
    refine z_aldq (t0 := 4) (C := RX5) S hE hW (by omega) sW_33 rfl i rfl (by omega) (by omega) (v := .ref (ad (35 + 2 * i))) rfl dL_act_39 ?_
    refine lv_astore (lv' := [(6, .ref (ad (35 + 2 * i))), (5, .int (nI j17)), (4, .int (nI B)), (3, .int (nI N)), (0, .ref (ad 0)), (1, .ref (ad 28)), (2, .int x)]) hx hb dL_act_40 hl (by decide) rfl (fun ls hl => ?_)
    refine lv_iload_n hx hb dL_act_42 rfl (lv_at hl 6 rfl) ?_
    refine lv_bipush (v := 9) hx hb dL_act_43 (by decide) ?_
    refine lv_ishr hx hb dL_act_45 ?_
    refine lv_bipush (v := 16) hx hb dL_act_46 (by decide) ?_
    refine z_pS (As := [.int (x >>> (9 &&& 31)), .int 16]) (rest := []) S hE hW (cL_below_ok l (x >>> (9 &&& 31)) 16 (by decide)) (va_cwS 2 hts gL_act_L_below rfl rfl rfl (by decide +kernel) ⟨Nat.le_of_ble_eq_true rfl, Nat.le_of_ble_eq_true rfl⟩) rfl hl.1 rfl (Nat.le_of_ble_eq_true rfl) dL_act_48 ⟨(by dsimp only; omega), (by dsimp only; omega)⟩ (fun H locs hW => ?_)
    obtain ⟨j48, hj48, hbj48⟩ : ∃ j, blw (x >>> (9 &&& 31)) 16 = nI j ∧ j < 16 := ⟨_, blN_e rfl (by decide) (by decide), blN_lt (by decide) (by decide)⟩
    refine z_top2 (y := nI j48) hj48 ?_
    rcases (show j48 = 0 ∨ j48 = 1 ∨ j48 = 2 ∨ j48 = 3 ∨ j48 = 4 ∨ j48 = 5 ∨ j48 = 6 ∨ j48 = 7 ∨ j48 = 8 ∨ j48 = 9 ∨ j48 = 10 ∨ j48 = 11 ∨ j48 = 12 ∨ j48 = 13 ∨ j48 = 14 ∨ j48 = 15 by omega) with rfl | rfl | rfl | rfl | rfl | rfl | rfl | rfl | rfl | rfl | rfl | rfl | rfl | rfl | rfl | rfl
    · refine lv_tableIn (off := 61) (tgt := 112) hx hb dL_act_51 (by decide) (by decide) rfl (by decide) ?_
      exact act_build S hE hr hlk hfl hI hh3 hW hbj17 (lv_sub hl [4, 5, 6, 3, 2, 1] rfl)
    · refine lv_tableIn (off := 159) (tgt := 210) hx hb dL_act_51 (by decide) (by decide) rfl (by decide) ?_
      exact act_launch S hE hr hlk hfl hI hh3 hW hbj17 (lv_sub hl [4, 5, 6, 3, 2, 1] rfl)
    · refine lv_tableIn (off := 261) (tgt := 312) hx hb dL_act_51 (by decide) (by decide) rfl (by decide) ?_
      exact act_set S hE hr hlk hfl hI hh3 hW hbj17 (lv_sub hl [4, 5, 6, 3, 2, 1] rfl)
    · refine lv_tableIn (off := 345) (tgt := 396) hx hb dL_act_51 (by decide) (by decide) rfl (by decide) ?_
      exact act_gust S hE hr hlk hfl hI hh3 hW hbj17 (lv_sub hl [4, 5, 6, 3, 2, 1] rfl)
    · refine lv_tableIn (off := 401) (tgt := 452) hx hb dL_act_51 (by decide) (by decide) rfl (by decide) ?_
      exact act_fill S hE hr hlk hfl hI hh3 hW hbj17 hi hix (lv_sub hl [4, 5, 6, 3, 2, 1, 0] rfl)
    · refine lv_tableIn (off := 401) (tgt := 452) hx hb dL_act_51 (by decide) (by decide) rfl (by decide) ?_
      exact act_fill S hE hr hlk hfl hI hh3 hW hbj17 hi hix (lv_sub hl [4, 5, 6, 3, 2, 1, 0] rfl)
    · refine lv_tableIn (off := 401) (tgt := 452) hx hb dL_act_51 (by decide) (by decide) rfl (by decide) ?_
      exact act_fill S hE hr hlk hfl hI hh3 hW hbj17 hi hix (lv_sub hl [4, 5, 6, 3, 2, 1, 0] rfl)
    · refine lv_tableIn (off := 401) (tgt := 452) hx hb dL_act_51 (by decide) (by decide) rfl (by decide) ?_
      exact act_fill S hE hr hlk hfl hI hh3 hW hbj17 hi hix (lv_sub hl [4, 5, 6, 3, 2, 1, 0] rfl)
    · refine lv_tableIn (off := 401) (tgt := 452) hx hb dL_act_51 (by decide) (by decide) rfl (by decide) ?_
      exact act_fill S hE hr hlk hfl hI hh3 hW hbj17 hi hix (lv_sub hl [4, 5, 6, 3, 2, 1, 0] rfl)
    · refine lv_tableIn (off := 509) (tgt := 560) hx hb dL_act_51 (by decide) (by decide) rfl (by decide) ?_
      exact act_go S hE hr hlk hfl hI hh3 hW hbj17 hi hix (lv_sub hl [4, 5, 6, 3, 2, 1, 0] rfl)
    · refine lv_tableIn (off := 509) (tgt := 560) hx hb dL_act_51 (by decide) (by decide) rfl (by decide) ?_
      exact act_go S hE hr hlk hfl hI hh3 hW hbj17 hi hix (lv_sub hl [4, 5, 6, 3, 2, 1, 0] rfl)
    · refine lv_tableIn (off := 553) (tgt := 604) hx hb dL_act_51 (by decide) (by decide) rfl (by decide) ?_
      exact act_sail S hE hr hlk hfl hI hh3 hW hbj17 (lv_sub hl [4, 5, 6, 3, 2, 1] rfl)
    · refine lv_tableOut (tgt := 699) hx hb dL_act_51 (by decide) (by decide) ?_
      exact act_stow S hE hr hlk hfl hI hh3 hW hbj17 (lv_sub hl [4, 5, 6, 3, 2, 1] rfl)
    · refine lv_tableOut (tgt := 699) hx hb dL_act_51 (by decide) (by decide) ?_
      exact act_stow S hE hr hlk hfl hI hh3 hW hbj17 (lv_sub hl [4, 5, 6, 3, 2, 1] rfl)
    · refine lv_tableOut (tgt := 699) hx hb dL_act_51 (by decide) (by decide) ?_
      exact act_stow S hE hr hlk hfl hI hh3 hW hbj17 (lv_sub hl [4, 5, 6, 3, 2, 1] rfl)
    · refine lv_tableOut (tgt := 699) hx hb dL_act_51 (by decide) (by decide) ?_
      exact act_stow S hE hr hlk hfl hI hh3 hW hbj17 (lv_sub hl [4, 5, 6, 3, 2, 1] rfl)
  · refine lv_null hx hb dL_act_26 ?_
    refine lv_goto (tgt := 40) hx hb dL_act_27 (by decide) ?_
    refine lv_astoreN (lv' := [(6, .null), (5, .int (nI j17)), (4, .int (nI B)), (3, .int (nI N)), (0, .ref (ad 0)), (1, .ref (ad 28)), (2, .int x)]) hx hb dL_act_40 hl (by decide) rfl (fun ls hl => ?_)
    refine lv_iload_n hx hb dL_act_42 rfl (lv_at hl 6 rfl) ?_
    refine lv_bipush (v := 9) hx hb dL_act_43 (by decide) ?_
    refine lv_ishr hx hb dL_act_45 ?_
    refine lv_bipush (v := 16) hx hb dL_act_46 (by decide) ?_
    refine z_pS (As := [.int (x >>> (9 &&& 31)), .int 16]) (rest := []) S hE hW (cL_below_ok l (x >>> (9 &&& 31)) 16 (by decide)) (va_cwS 2 hts gL_act_L_below rfl rfl rfl (by decide +kernel) ⟨Nat.le_of_ble_eq_true rfl, Nat.le_of_ble_eq_true rfl⟩) rfl hl.1 rfl (Nat.le_of_ble_eq_true rfl) dL_act_48 ⟨(by dsimp only; omega), (by dsimp only; omega)⟩ (fun H locs hW => ?_)
    obtain ⟨j48, hj48, hbj48⟩ : ∃ j, blw (x >>> (9 &&& 31)) 16 = nI j ∧ j < 16 := ⟨_, blN_e rfl (by decide) (by decide), blN_lt (by decide) (by decide)⟩
    refine z_top2 (y := nI j48) hj48 ?_
    rcases (show j48 = 0 ∨ j48 = 1 ∨ j48 = 2 ∨ j48 = 3 ∨ j48 = 4 ∨ j48 = 5 ∨ j48 = 6 ∨ j48 = 7 ∨ j48 = 8 ∨ j48 = 9 ∨ j48 = 10 ∨ j48 = 11 ∨ j48 = 12 ∨ j48 = 13 ∨ j48 = 14 ∨ j48 = 15 by omega) with rfl | rfl | rfl | rfl | rfl | rfl | rfl | rfl | rfl | rfl | rfl | rfl | rfl | rfl | rfl | rfl
    · refine lv_tableIn (off := 61) (tgt := 112) hx hb dL_act_51 (by decide) (by decide) rfl (by decide) ?_
      exact act_build S hE hr hlk hfl hI hh3 hW hbj17 (lv_sub hl [4, 5, 6, 3, 2, 1] rfl)
    · refine lv_tableIn (off := 159) (tgt := 210) hx hb dL_act_51 (by decide) (by decide) rfl (by decide) ?_
      exact act_launch S hE hr hlk hfl hI hh3 hW hbj17 (lv_sub hl [4, 5, 6, 3, 2, 1] rfl)
    · refine lv_tableIn (off := 261) (tgt := 312) hx hb dL_act_51 (by decide) (by decide) rfl (by decide) ?_
      exact act_set S hE hr hlk hfl hI hh3 hW hbj17 (lv_sub hl [4, 5, 6, 3, 2, 1] rfl)
    · refine lv_tableIn (off := 345) (tgt := 396) hx hb dL_act_51 (by decide) (by decide) rfl (by decide) ?_
      exact act_gust S hE hr hlk hfl hI hh3 hW hbj17 (lv_sub hl [4, 5, 6, 3, 2, 1] rfl)
    · refine lv_tableIn (off := 401) (tgt := 452) hx hb dL_act_51 (by decide) (by decide) rfl (by decide) ?_
      refine lv_iload_n hx hb dL_act_452 rfl (lv_at hl 3 rfl) ?_
      refine lv_if_eq (tgt := 490) hx hb dL_act_453 (by decide) (fun _ => ?_) (fun h => absurd c23 h)
      refine lv_iconst (v := 1) hx hb dL_act_490 (by decide) ?_
      exact zg_z S hW hr hlk (ad, al, N, B) rfl (Or.inr rfl) ⟨rfl, hI, rfl, rfl⟩ (by omega) (by omega) dL_act_491
    · refine lv_tableIn (off := 401) (tgt := 452) hx hb dL_act_51 (by decide) (by decide) rfl (by decide) ?_
      refine lv_iload_n hx hb dL_act_452 rfl (lv_at hl 3 rfl) ?_
      refine lv_if_eq (tgt := 490) hx hb dL_act_453 (by decide) (fun _ => ?_) (fun h => absurd c23 h)
      refine lv_iconst (v := 1) hx hb dL_act_490 (by decide) ?_
      exact zg_z S hW hr hlk (ad, al, N, B) rfl (Or.inr rfl) ⟨rfl, hI, rfl, rfl⟩ (by omega) (by omega) dL_act_491
    · refine lv_tableIn (off := 401) (tgt := 452) hx hb dL_act_51 (by decide) (by decide) rfl (by decide) ?_
      refine lv_iload_n hx hb dL_act_452 rfl (lv_at hl 3 rfl) ?_
      refine lv_if_eq (tgt := 490) hx hb dL_act_453 (by decide) (fun _ => ?_) (fun h => absurd c23 h)
      refine lv_iconst (v := 1) hx hb dL_act_490 (by decide) ?_
      exact zg_z S hW hr hlk (ad, al, N, B) rfl (Or.inr rfl) ⟨rfl, hI, rfl, rfl⟩ (by omega) (by omega) dL_act_491
    · refine lv_tableIn (off := 401) (tgt := 452) hx hb dL_act_51 (by decide) (by decide) rfl (by decide) ?_
      refine lv_iload_n hx hb dL_act_452 rfl (lv_at hl 3 rfl) ?_
      refine lv_if_eq (tgt := 490) hx hb dL_act_453 (by decide) (fun _ => ?_) (fun h => absurd c23 h)
      refine lv_iconst (v := 1) hx hb dL_act_490 (by decide) ?_
      exact zg_z S hW hr hlk (ad, al, N, B) rfl (Or.inr rfl) ⟨rfl, hI, rfl, rfl⟩ (by omega) (by omega) dL_act_491
    · refine lv_tableIn (off := 401) (tgt := 452) hx hb dL_act_51 (by decide) (by decide) rfl (by decide) ?_
      refine lv_iload_n hx hb dL_act_452 rfl (lv_at hl 3 rfl) ?_
      refine lv_if_eq (tgt := 490) hx hb dL_act_453 (by decide) (fun _ => ?_) (fun h => absurd c23 h)
      refine lv_iconst (v := 1) hx hb dL_act_490 (by decide) ?_
      exact zg_z S hW hr hlk (ad, al, N, B) rfl (Or.inr rfl) ⟨rfl, hI, rfl, rfl⟩ (by omega) (by omega) dL_act_491
    · refine lv_tableIn (off := 509) (tgt := 560) hx hb dL_act_51 (by decide) (by decide) rfl (by decide) ?_
      refine lv_iload_n hx hb dL_act_560 rfl (lv_at hl 3 rfl) ?_
      refine lv_if_eq (tgt := 572) hx hb dL_act_561 (by decide) (fun _ => ?_) (fun h => absurd c23 h)
      refine lv_iconst (v := 1) hx hb dL_act_572 (by decide) ?_
      exact zg_z S hW hr hlk (ad, al, N, B) rfl (Or.inr rfl) ⟨rfl, hI, rfl, rfl⟩ (by omega) (by omega) dL_act_573
    · refine lv_tableIn (off := 509) (tgt := 560) hx hb dL_act_51 (by decide) (by decide) rfl (by decide) ?_
      refine lv_iload_n hx hb dL_act_560 rfl (lv_at hl 3 rfl) ?_
      refine lv_if_eq (tgt := 572) hx hb dL_act_561 (by decide) (fun _ => ?_) (fun h => absurd c23 h)
      refine lv_iconst (v := 1) hx hb dL_act_572 (by decide) ?_
      exact zg_z S hW hr hlk (ad, al, N, B) rfl (Or.inr rfl) ⟨rfl, hI, rfl, rfl⟩ (by omega) (by omega) dL_act_573
    · refine lv_tableIn (off := 553) (tgt := 604) hx hb dL_act_51 (by decide) (by decide) rfl (by decide) ?_
      exact act_sail S hE hr hlk hfl hI hh3 hW hbj17 (lv_sub hl [4, 5, 6, 3, 2, 1] rfl)
    · refine lv_tableOut (tgt := 699) hx hb dL_act_51 (by decide) (by decide) ?_
      exact act_stow S hE hr hlk hfl hI hh3 hW hbj17 (lv_sub hl [4, 5, 6, 3, 2, 1] rfl)
    · refine lv_tableOut (tgt := 699) hx hb dL_act_51 (by decide) (by decide) ?_
      exact act_stow S hE hr hlk hfl hI hh3 hW hbj17 (lv_sub hl [4, 5, 6, 3, 2, 1] rfl)
    · refine lv_tableOut (tgt := 699) hx hb dL_act_51 (by decide) (by decide) ?_
      exact act_stow S hE hr hlk hfl hI hh3 hW hbj17 (lv_sub hl [4, 5, 6, 3, 2, 1] rfl)
    · refine lv_tableOut (tgt := 699) hx hb dL_act_51 (by decide) (by decide) ?_
      exact act_stow S hE hr hlk hfl hI hh3 hW hbj17 (lv_sub hl [4, 5, 6, 3, 2, 1] rfl)
