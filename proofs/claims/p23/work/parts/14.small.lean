/-! boats, shores, sledges -/
theorem z_pred {x : Int32} {a : Nat} (h : x = nI a) (h8 : a ≤ 8) (h0 : ¬ x ≤ 0) : x - 1 = nI (a - 1) ∧ a - 1 < 8 := by
  have h1 : 0 < a := by
    rcases Nat.eq_zero_or_pos a with q | q
    · subst q
      exact absurd (by rw [h]; decide) h0
    · exact q
  obtain ⟨b, rfl⟩ : ∃ b, a = b + 1 := ⟨a - 1, by omega⟩
  exact ⟨by rw [h]; exact nI_pred b, by omega⟩
set_option maxHeartbeats 4000000 in
set_option maxRecDepth 100000 in
theorem cX0_trim_ok (l : Launch) (D : va_G) (n : Nat) (ad cy sa : Nat → Nat) (sz : Nat) (hn : 28 ≤ n) (al : Nat → Nat → Int32) (ex : Nat → va_E) (i : Nat) (hb4 : i < 4) : Met l yX0_trim wsX0_trim ({ frames := 0, cells := 0, slots := 0, locals := 0 }) (PW D n ad cy sa sz (cC cy ad al ex) [.ref (ad (24 + i))]) (QDi D n ad sz (al (24 + i) 1 - al (24 + i) 2) (cC cy ad al ex)) 0 0 (Acc n ad sz) := by
  refine zs_met (cc := cX0_trim) (maxL := 1) (ret := (some .int)) (own := RX0) (by decide) rfl rfl (Nat.le_of_ble_eq_true rfl) ?_
  intro p e s m args below meth c ls S hE hW hr hlk hsz hav hl
  subst hsz
  have hx := S.1
  have hb := S.2.1
  have hown := S.2.2.2.1
  have hts := S.2.2.2.2
  have hl : lv_has ls 1 [(0, .ref (ad (24 + i)))] := hl
  have f7 := hts (.fieldLink RX0 7 "PumiceSledge$Boat" "fore" "I") (by decide +kernel)
  have hi0 : ∀ w ∈ wsX00, w ∈ wsX0_trim := by decide +kernel
  have f13 := hts (.fieldLink RX0 13 "PumiceSledge$Boat" "aft" "I") (by decide +kernel)
  refine lv_aload_n hx hb dX0_trim_0 rfl (lv_at hl 0 rfl) ?_
  refine z_get (C := RX0) (T := TX0) (N := 3) (ci := 0) S hE hW hi0 rfl (Nat.lt_of_lt_of_le (kC_b hb4) hn) (cC_b (i := i) hb4) 1 (by decide) rfl f7 (v := .int (al (24 + i) 1)) rfl dX0_trim_1 ?_
  refine lv_aload_n hx hb dX0_trim_4 rfl (lv_at hl 0 rfl) ?_
  refine z_get (C := RX0) (T := TX0) (N := 3) (ci := 0) S hE hW hi0 rfl (Nat.lt_of_lt_of_le (kC_b hb4) hn) (cC_b (i := i) hb4) 2 (by decide) rfl f13 (v := .int (al (24 + i) 2)) rfl dX0_trim_5 ?_
  refine lv_isub hx hb dX0_trim_8 ?_
  exact ze_i S hW hr hlk () rfl rfl (Nat.le_of_ble_eq_true rfl) (Nat.le_of_ble_eq_true rfl) dX0_trim_9
set_option maxHeartbeats 4000000 in
set_option maxRecDepth 100000 in
theorem cX0_depth_ok (l : Launch) (D : va_G) (n : Nat) (ad cy sa : Nat → Nat) (sz : Nat) (hn : 28 ≤ n) (al : Nat → Nat → Int32) (ex : Nat → va_E) (i : Nat) (hb4 : i < 4) : Met l yX0_depth wsX0_depth ({ frames := 2, cells := 0, slots := 0, locals := 81 }) (PW D n ad cy sa sz (cC cy ad al ex) [.ref (ad (24 + i))]) (QDi D n ad sz (dep (al (24 + i) 1) (al (24 + i) 2)) (cC cy ad al ex)) 0 0 (Acc n ad sz) := by
  refine zs_met (cc := cX0_depth) (maxL := 1) (ret := (some .int)) (own := RX0) (by decide) rfl rfl (Nat.le_of_ble_eq_true rfl) ?_
  intro p e s m args below meth c ls S hE hW hr hlk hsz hav hl
  subst hsz
  have hx := S.1
  have hb := S.2.1
  have hown := S.2.2.2.1
  have hts := S.2.2.2.2
  have hl : lv_has ls 1 [(0, .ref (ad (24 + i)))] := hl
  have f7 := hts (.fieldLink RX0 7 "PumiceSledge$Boat" "fore" "I") (by decide +kernel)
  have hi0 : ∀ w ∈ wsX00, w ∈ wsX0_depth := by decide +kernel
  have f13 := hts (.fieldLink RX0 13 "PumiceSledge$Boat" "aft" "I") (by decide +kernel)
  have in_X3 := hts (.initialized RX3) (by decide +kernel)
  have stt_X3_depthOf := hts (.static yX3_depthOf) (by decide +kernel)
  refine lv_aload_n hx hb dX0_depth_0 rfl (lv_at hl 0 rfl) ?_
  refine z_get (C := RX0) (T := TX0) (N := 3) (ci := 0) S hE hW hi0 rfl (Nat.lt_of_lt_of_le (kC_b hb4) hn) (cC_b (i := i) hb4) 1 (by decide) rfl f7 (v := .int (al (24 + i) 1)) rfl dX0_depth_1 ?_
  refine lv_aload_n hx hb dX0_depth_4 rfl (lv_at hl 0 rfl) ?_
  refine z_get (C := RX0) (T := TX0) (N := 3) (ci := 0) S hE hW hi0 rfl (Nat.lt_of_lt_of_le (kC_b hb4) hn) (cC_b (i := i) hb4) 2 (by decide) rfl f13 (v := .int (al (24 + i) 2)) rfl dX0_depth_5 ?_
  refine z_pSN (As := [.int (al (24 + i) 1), .int (al (24 + i) 2)]) (rest := []) S hE hW (cX3_depthOf_ok l (al (24 + i) 1) (al (24 + i) 2)) (⟨va_cnB 2 hts gX0_depth_X3_depthOf_n16 rfl rfl rfl (hE.1.2.1.at 16 rfl) in_X3 (by decide +kernel) ⟨Nat.le_of_ble_eq_true rfl, Nat.le_of_ble_eq_true rfl⟩, stt_X3_depthOf, trivial⟩) rfl hl.1 rfl (Nat.le_of_ble_eq_true rfl) dX0_depth_8 ⟨Nat.le_of_ble_eq_true rfl, Nat.le_of_ble_eq_true rfl⟩ (fun H locs hW => ?_)
  exact ze_i S hW hr hlk () rfl rfl (Nat.le_of_ble_eq_true rfl) (Nat.le_of_ble_eq_true rfl) dX0_depth_11
set_option maxHeartbeats 4000000 in
set_option maxRecDepth 100000 in
theorem cX0_canSail_ok (l : Launch) (D : va_G) (n : Nat) (ad cy sa : Nat → Nat) (sz : Nat) (hn : 28 ≤ n) (al : Nat → Nat → Int32) (ex : Nat → va_E) (i : Nat) (hb4 : i < 4) : Met l yX0_canSail wsX0_canSail ({ frames := 3, cells := 0, slots := 0, locals := 101 }) (PW D n ad cy sa sz (cC cy ad al ex) [.ref (ad (24 + i))]) (QDi D n ad sz (if (¬ 20 < dep (al (24 + i) 1) (al (24 + i) 2) ∧ zIn (al (24 + i) 1 - al (24 + i) 2) (-100) 100) then 1 else 0) (cC cy ad al ex)) 0 0 (Acc n ad sz) := by
  refine zs_met (cc := cX0_canSail) (maxL := 1) (ret := (some .boolean)) (own := RX0) (by decide) rfl rfl (Nat.le_of_ble_eq_true rfl) ?_
  intro p e s m args below meth c ls S hE hW hr hlk hsz hav hl
  subst hsz
  have hx := S.1
  have hb := S.2.1
  have hown := S.2.2.2.1
  have hts := S.2.2.2.2
  have hl : lv_has ls 1 [(0, .ref (ad (24 + i)))] := hl
  have in_X3 := hts (.initialized RX3) (by decide +kernel)
  have stt_X3_isWithin := hts (.static yX3_isWithin) (by decide +kernel)
  refine lv_aload_n hx hb dX0_canSail_0 rfl (lv_at hl 0 rfl) ?_
  refine z_cVi (As := []) (rest := []) (k := (24 + i)) S hE hW (cX0_depth_ok l D n ad cy sa s.heap.size hn al ex i hb4) (cwV 0 hts gX0_canSail_X0_depth rfl rfl rfl (by decide +kernel) ⟨Nat.le_of_ble_eq_true rfl, Nat.le_of_ble_eq_true rfl⟩) (Nat.lt_of_lt_of_le (kC_b hb4) hn) (cC_b (i := i) hb4) rfl rfl rfl hl.1 rfl (Nat.le_of_ble_eq_true rfl) dX0_canSail_1 ⟨Nat.le_of_ble_eq_true rfl, Nat.le_of_ble_eq_true rfl⟩ (fun r _ H locs hp hW => ?_)
  subst hp
  refine lv_bipush (v := 20) hx hb dX0_canSail_4 (by decide) ?_
  refine lv_icmp_gt (tgt := 27) hx hb dX0_canSail_6 (by decide) (fun c6 => ?_) (fun c6 => ?_)
  · refine lv_iconst (v := 0) hx hb dX0_canSail_27 (by decide) ?_
    exact ze_z S hW hr hlk () rfl (by decide) ((if_neg (fun h => h.1 c6)).symm) (Nat.le_of_ble_eq_true rfl) (Nat.le_of_ble_eq_true rfl) dX0_canSail_28
  · refine lv_aload_n hx hb dX0_canSail_9 rfl (lv_at hl 0 rfl) ?_
    refine z_cVi (As := []) (rest := []) (k := (24 + i)) S hE hW (cX0_trim_ok l D n ad cy sa H.size hn al ex i hb4) (cwV 0 hts gX0_canSail_X0_trim rfl rfl rfl (by decide +kernel) ⟨Nat.le_of_ble_eq_true rfl, Nat.le_of_ble_eq_true rfl⟩) (Nat.lt_of_lt_of_le (kC_b hb4) hn) (cC_b (i := i) hb4) rfl rfl rfl hl.1 rfl (Nat.le_of_ble_eq_true rfl) dX0_canSail_10 ⟨Nat.le_of_ble_eq_true rfl, Nat.le_of_ble_eq_true rfl⟩ (fun r _ H locs hp hW => ?_)
    subst hp
    refine lv_bipush (v := (-100)) hx hb dX0_canSail_13 (by decide) ?_
    refine lv_bipush (v := 100) hx hb dX0_canSail_15 (by decide) ?_
    refine z_pSN (As := [.int (al (24 + i) 1 - al (24 + i) 2), .int (-100), .int 100]) (rest := []) S hE hW (cX3_isWithin_ok l (al (24 + i) 1 - al (24 + i) 2) (-100) 100) (⟨va_cnB 3 hts gX0_canSail_X3_isWithin_n29 rfl rfl rfl (hE.1.2.1.at 17 rfl) in_X3 (by decide +kernel) ⟨Nat.le_of_ble_eq_true rfl, Nat.le_of_ble_eq_true rfl⟩, stt_X3_isWithin, trivial⟩) rfl hl.1 rfl (Nat.le_of_ble_eq_true rfl) dX0_canSail_17 ⟨Nat.le_of_ble_eq_true rfl, Nat.le_of_ble_eq_true rfl⟩ (fun H locs hW => ?_)
    refine lv_if_eq (tgt := 27) hx hb dX0_canSail_20 (by decide) (fun c20 => ?_) (fun c20 => ?_)
    · have c20 := zb_f c20
      refine lv_iconst (v := 0) hx hb dX0_canSail_27 (by decide) ?_
      exact ze_z S hW hr hlk () rfl (by decide) ((if_neg (fun h => c20 h.2)).symm) (Nat.le_of_ble_eq_true rfl) (Nat.le_of_ble_eq_true rfl) dX0_canSail_28
    · have c20 := zb_t c20
      refine lv_iconst (v := 1) hx hb dX0_canSail_23 (by decide) ?_
      refine lv_goto (tgt := 28) hx hb dX0_canSail_24 (by decide) ?_
      exact ze_z S hW hr hlk () rfl (by decide) ((if_pos ⟨c6, c20⟩).symm) (Nat.le_of_ble_eq_true rfl) (Nat.le_of_ble_eq_true rfl) dX0_canSail_28
set_option maxHeartbeats 4000000 in
set_option maxRecDepth 100000 in
theorem cX0_room_ok (l : Launch) (D : va_G) (n : Nat) (ad cy sa : Nat → Nat) (sz : Nat) (hn : 28 ≤ n) (al : Nat → Nat → Int32) (ex : Nat → va_E) (i : Nat) (hb4 : i < 4) : Met l yX0_room wsX0_room ({ frames := 0, cells := 0, slots := 0, locals := 0 }) (PW D n ad cy sa sz (cC cy ad al ex) [.ref (ad (24 + i))]) (QDi D n ad sz ((al (24 + i) 0 - al (24 + i) 1) - al (24 + i) 2) (cC cy ad al ex)) 0 0 (Acc n ad sz) := by
  refine zs_met (cc := cX0_room) (maxL := 1) (ret := (some .int)) (own := RX0) (by decide) rfl rfl (Nat.le_of_ble_eq_true rfl) ?_
  intro p e s m args below meth c ls S hE hW hr hlk hsz hav hl
  subst hsz
  have hx := S.1
  have hb := S.2.1
  have hown := S.2.2.2.1
  have hts := S.2.2.2.2
  have hl : lv_has ls 1 [(0, .ref (ad (24 + i)))] := hl
  have f33 := hts (.fieldLink RX0 33 "PumiceSledge$Boat" "mostLoad" "I") (by decide +kernel)
  have hi0 : ∀ w ∈ wsX00, w ∈ wsX0_room := by decide +kernel
  have f7 := hts (.fieldLink RX0 7 "PumiceSledge$Boat" "fore" "I") (by decide +kernel)
  have f13 := hts (.fieldLink RX0 13 "PumiceSledge$Boat" "aft" "I") (by decide +kernel)
  refine lv_aload_n hx hb dX0_room_0 rfl (lv_at hl 0 rfl) ?_
  refine z_get (C := RX0) (T := TX0) (N := 3) (ci := 0) S hE hW hi0 rfl (Nat.lt_of_lt_of_le (kC_b hb4) hn) (cC_b (i := i) hb4) 0 (by decide) rfl f33 (v := .int (al (24 + i) 0)) rfl dX0_room_1 ?_
  refine lv_aload_n hx hb dX0_room_4 rfl (lv_at hl 0 rfl) ?_
  refine z_get (C := RX0) (T := TX0) (N := 3) (ci := 0) S hE hW hi0 rfl (Nat.lt_of_lt_of_le (kC_b hb4) hn) (cC_b (i := i) hb4) 1 (by decide) rfl f7 (v := .int (al (24 + i) 1)) rfl dX0_room_5 ?_
  refine lv_isub hx hb dX0_room_8 ?_
  refine lv_aload_n hx hb dX0_room_9 rfl (lv_at hl 0 rfl) ?_
  refine z_get (C := RX0) (T := TX0) (N := 3) (ci := 0) S hE hW hi0 rfl (Nat.lt_of_lt_of_le (kC_b hb4) hn) (cC_b (i := i) hb4) 2 (by decide) rfl f13 (v := .int (al (24 + i) 2)) rfl dX0_room_10 ?_
  refine lv_isub hx hb dX0_room_13 ?_
  exact ze_i S hW hr hlk () rfl rfl (Nat.le_of_ble_eq_true rfl) (Nat.le_of_ble_eq_true rfl) dX0_room_14
set_option maxHeartbeats 4000000 in
set_option maxRecDepth 100000 in
theorem cX0_worth_ok (l : Launch) (D : va_G) (n : Nat) (ad cy sa : Nat → Nat) (sz : Nat) (hn : 28 ≤ n) (al : Nat → Nat → Int32) (ex : Nat → va_E) (i : Nat) (hb4 : i < 4) : Met l yX0_worth wsX0_worth ({ frames := 0, cells := 0, slots := 0, locals := 0 }) (PW D n ad cy sa sz (cC cy ad al ex) [.ref (ad (24 + i))]) (QDi D n ad sz (((al (24 + i) 1 + al (24 + i) 2) / 10) * 3) (cC cy ad al ex)) 0 0 (Acc n ad sz) := by
  refine zs_met (cc := cX0_worth) (maxL := 1) (ret := (some .int)) (own := RX0) (by decide) rfl rfl (Nat.le_of_ble_eq_true rfl) ?_
  intro p e s m args below meth c ls S hE hW hr hlk hsz hav hl
  subst hsz
  have hx := S.1
  have hb := S.2.1
  have hown := S.2.2.2.1
  have hts := S.2.2.2.2
  have hl : lv_has ls 1 [(0, .ref (ad (24 + i)))] := hl
  have f7 := hts (.fieldLink RX0 7 "PumiceSledge$Boat" "fore" "I") (by decide +kernel)
  have hi0 : ∀ w ∈ wsX00, w ∈ wsX0_worth := by decide +kernel
  have f13 := hts (.fieldLink RX0 13 "PumiceSledge$Boat" "aft" "I") (by decide +kernel)
  refine lv_aload_n hx hb dX0_worth_0 rfl (lv_at hl 0 rfl) ?_
  refine z_get (C := RX0) (T := TX0) (N := 3) (ci := 0) S hE hW hi0 rfl (Nat.lt_of_lt_of_le (kC_b hb4) hn) (cC_b (i := i) hb4) 1 (by decide) rfl f7 (v := .int (al (24 + i) 1)) rfl dX0_worth_1 ?_
  refine lv_aload_n hx hb dX0_worth_4 rfl (lv_at hl 0 rfl) ?_
  refine z_get (C := RX0) (T := TX0) (N := 3) (ci := 0) S hE hW hi0 rfl (Nat.lt_of_lt_of_le (kC_b hb4) hn) (cC_b (i := i) hb4) 2 (by decide) rfl f13 (v := .int (al (24 + i) 2)) rfl dX0_worth_5 ?_
  refine lv_iadd hx hb dX0_worth_8 ?_
  refine lv_bipush (v := 10) hx hb dX0_worth_9 (by decide) ?_
  refine lv_idiv hx hb dX0_worth_11 (by decide) ?_
  refine lv_iconst (v := 3) hx hb dX0_worth_12 (by decide) ?_
  refine lv_imul hx hb dX0_worth_13 ?_
  exact ze_i S hW hr hlk () rfl rfl (Nat.le_of_ble_eq_true rfl) (Nat.le_of_ble_eq_true rfl) dX0_worth_14
set_option maxHeartbeats 4000000 in
set_option maxRecDepth 100000 in
theorem cX1_allSacks_ok (l : Launch) (D : va_G) (n : Nat) (ad cy sa : Nat → Nat) (sz : Nat) (hn : 28 ≤ n) (al : Nat → Nat → Int32) (ex : Nat → va_E) (sh : Nat) (hsh : sh < 2) : Met l yX1_allSacks wsX1_allSacks ({ frames := 0, cells := 0, slots := 0, locals := 0 }) (PW D n ad cy sa sz (cC cy ad al ex) [.ref (ad (6 + sh))]) (QDi D n ad sz (((al (8 + sh) 0 + al (8 + sh) 1) + al (8 + sh) 2)) (cC cy ad al ex)) 0 0 (Acc n ad sz) := by
  refine zs_met (cc := cX1_allSacks) (maxL := 1) (ret := (some .int)) (own := RX1) (by decide) rfl rfl (Nat.le_of_ble_eq_true rfl) ?_
  intro p e s m args below meth c ls S hE hW hr hlk hsz hav hl
  subst hsz
  have hx := S.1
  have hb := S.2.1
  have hown := S.2.2.2.1
  have hts := S.2.2.2.2
  have hl : lv_has ls 1 [(0, .ref (ad (6 + sh)))] := hl
  have f9 := hts (.fieldLink RX1 9 "PumiceSledge$Shore" "sacks" "[I") (by decide +kernel)
  have hi1 : ∀ w ∈ wsX10, w ∈ wsX1_allSacks := by decide +kernel
  refine lv_aload_n hx hb dX1_allSacks_0 rfl (lv_at hl 0 rfl) ?_
  refine z_get (C := RX1) (T := TX1) (N := 2) (ci := 1) S hE hW hi1 rfl (Nat.lt_of_lt_of_le (kC_h hsh) hn) (cC_h (i := sh) hsh) 0 (by decide) rfl f9 (v := .ref (ad (8 + sh))) rfl dX1_allSacks_1 ?_
  refine lv_iconst (v := 0) hx hb dX1_allSacks_4 (by decide) ?_
  refine z_ald S hE hW (Nat.lt_of_lt_of_le (kC_hs hsh) hn) (cC_hs (i := sh) hsh) 0 rfl (by decide) (by decide) (v := al (8 + sh) 0) rfl dX1_allSacks_5 ?_
  refine lv_aload_n hx hb dX1_allSacks_6 rfl (lv_at hl 0 rfl) ?_
  refine z_get (C := RX1) (T := TX1) (N := 2) (ci := 1) S hE hW hi1 rfl (Nat.lt_of_lt_of_le (kC_h hsh) hn) (cC_h (i := sh) hsh) 0 (by decide) rfl f9 (v := .ref (ad (8 + sh))) rfl dX1_allSacks_7 ?_
  refine lv_iconst (v := 1) hx hb dX1_allSacks_10 (by decide) ?_
  refine z_ald S hE hW (Nat.lt_of_lt_of_le (kC_hs hsh) hn) (cC_hs (i := sh) hsh) 1 rfl (by decide) (by decide) (v := al (8 + sh) 1) rfl dX1_allSacks_11 ?_
  refine lv_iadd hx hb dX1_allSacks_12 ?_
  refine lv_aload_n hx hb dX1_allSacks_13 rfl (lv_at hl 0 rfl) ?_
  refine z_get (C := RX1) (T := TX1) (N := 2) (ci := 1) S hE hW hi1 rfl (Nat.lt_of_lt_of_le (kC_h hsh) hn) (cC_h (i := sh) hsh) 0 (by decide) rfl f9 (v := .ref (ad (8 + sh))) rfl dX1_allSacks_14 ?_
  refine lv_iconst (v := 2) hx hb dX1_allSacks_17 (by decide) ?_
  refine z_ald S hE hW (Nat.lt_of_lt_of_le (kC_hs hsh) hn) (cC_hs (i := sh) hsh) 2 rfl (by decide) (by decide) (v := al (8 + sh) 2) rfl dX1_allSacks_18 ?_
  refine lv_iadd hx hb dX1_allSacks_19 ?_
  exact ze_i S hW hr hlk () rfl rfl (Nat.le_of_ble_eq_true rfl) (Nat.le_of_ble_eq_true rfl) dX1_allSacks_20
set_option maxHeartbeats 4000000 in
set_option maxRecDepth 100000 in
theorem cX2_isFull_ok (l : Launch) (D : va_G) (n : Nat) (ad cy sa : Nat → Nat) (sz : Nat) (hn : 28 ≤ n) (al : Nat → Nat → Int32) (ex : Nat → va_E) (i : Nat) (hi : i < 7) : Met l yX2_isFull wsX2_isFull ({ frames := 0, cells := 0, slots := 0, locals := 0 }) (PW D n ad cy sa sz (cC cy ad al ex) [.ref (ad (10 + i))]) (QDi D n ad sz (if (al (10 + i) 0 ≤ al (10 + i) 2 ∨ ¬ al (10 + i) 2 < 8) then 1 else 0) (cC cy ad al ex)) 0 0 (Acc n ad sz) := by
  refine zs_met (cc := cX2_isFull) (maxL := 1) (ret := (some .boolean)) (own := RX2) (by decide) rfl rfl (Nat.le_of_ble_eq_true rfl) ?_
  intro p e s m args below meth c ls S hE hW hr hlk hsz hav hl
  subst hsz
  have hx := S.1
  have hb := S.2.1
  have hown := S.2.2.2.1
  have hts := S.2.2.2.2
  have hl : lv_has ls 1 [(0, .ref (ad (10 + i)))] := hl
  have f22 := hts (.fieldLink RX2 22 "PumiceSledge$Sledge" "aboard" "I") (by decide +kernel)
  have hi2 : ∀ w ∈ wsX20, w ∈ wsX2_isFull := by decide +kernel
  have f25 := hts (.fieldLink RX2 25 "PumiceSledge$Sledge" "holds" "I") (by decide +kernel)
  refine lv_aload_n hx hb dX2_isFull_0 rfl (lv_at hl 0 rfl) ?_
  refine z_get (C := RX2) (T := TX2) (N := 5) (ci := 2) S hE hW hi2 rfl (Nat.lt_of_lt_of_le (kC_s hi) hn) (cC_s (i := i) hi) 2 (by decide) rfl f22 (v := .int (al (10 + i) 2)) rfl dX2_isFull_1 ?_
  refine lv_aload_n hx hb dX2_isFull_4 rfl (lv_at hl 0 rfl) ?_
  refine z_get (C := RX2) (T := TX2) (N := 5) (ci := 2) S hE hW hi2 rfl (Nat.lt_of_lt_of_le (kC_s hi) hn) (cC_s (i := i) hi) 0 (by decide) rfl f25 (v := .int (al (10 + i) 0)) rfl dX2_isFull_5 ?_
  refine lv_icmp_ge (tgt := 20) hx hb dX2_isFull_8 (by decide) (fun c8 => ?_) (fun c8 => ?_)
  · refine lv_iconst (v := 1) hx hb dX2_isFull_20 (by decide) ?_
    refine lv_goto (tgt := 25) hx hb dX2_isFull_21 (by decide) ?_
    exact ze_z S hW hr hlk () rfl (by decide) ((if_pos (Or.inl c8)).symm) (Nat.le_of_ble_eq_true rfl) (Nat.le_of_ble_eq_true rfl) dX2_isFull_25
  · refine lv_aload_n hx hb dX2_isFull_11 rfl (lv_at hl 0 rfl) ?_
    refine z_get (C := RX2) (T := TX2) (N := 5) (ci := 2) S hE hW hi2 rfl (Nat.lt_of_lt_of_le (kC_s hi) hn) (cC_s (i := i) hi) 2 (by decide) rfl f22 (v := .int (al (10 + i) 2)) rfl dX2_isFull_12 ?_
    refine lv_bipush (v := 8) hx hb dX2_isFull_15 (by decide) ?_
    refine lv_icmp_lt (tgt := 24) hx hb dX2_isFull_17 (by decide) (fun c17 => ?_) (fun c17 => ?_)
    · refine lv_iconst (v := 0) hx hb dX2_isFull_24 (by decide) ?_
      exact ze_z S hW hr hlk () rfl (by decide) ((if_neg (fun h => h.elim c8 (fun q => q c17))).symm) (Nat.le_of_ble_eq_true rfl) (Nat.le_of_ble_eq_true rfl) dX2_isFull_25
    · refine lv_iconst (v := 1) hx hb dX2_isFull_20 (by decide) ?_
      refine lv_goto (tgt := 25) hx hb dX2_isFull_21 (by decide) ?_
      exact ze_z S hW hr hlk () rfl (by decide) ((if_pos (Or.inr c17)).symm) (Nat.le_of_ble_eq_true rfl) (Nat.le_of_ble_eq_true rfl) dX2_isFull_25
set_option maxHeartbeats 4000000 in
set_option maxRecDepth 100000 in
theorem cX2_load_ok (l : Launch) (D : va_G) (n : Nat) (ad cy sa : Nat → Nat) (sz : Nat) (hn : 28 ≤ n) (al : Nat → Nat → Int32) (ex : Nat → va_E) (i : Nat) (hi : i < 7) (a : Nat) (ha : al (10 + i) 2 = nI a) (ha8 : a < 8) (hnf : ¬ (al (10 + i) 0 ≤ al (10 + i) 2 ∨ ¬ al (10 + i) 2 < 8)) (x : Int32) : Met l yX2_load wsX2_load ({ frames := 1, cells := 0, slots := 0, locals := 20 }) (PW D n ad cy sa sz (cC cy ad al ex) [.ref (ad (10 + i)), .int x]) (QDv D n ad sz (cC cy ad (zup (zup al (17 + i) a x) (10 + i) 2 (al (10 + i) 2 + 1)) ex)) 0 0 (Acc n ad sz) := by
  refine zs_met (cc := cX2_load) (maxL := 2) (ret := none) (own := RX2) (by decide) rfl rfl (Nat.le_of_ble_eq_true rfl) ?_
  intro p e s m args below meth c ls S hE hW hr hlk hsz hav hl
  subst hsz
  have hx := S.1
  have hb := S.2.1
  have hown := S.2.2.2.1
  have hts := S.2.2.2.2
  have hl : lv_has ls 2 [(0, .ref (ad (10 + i))), (1, .int x)] := hl
  have f9 := hts (.fieldLink RX2 9 "PumiceSledge$Sledge" "weights" "[I") (by decide +kernel)
  have hi2 : ∀ w ∈ wsX20, w ∈ wsX2_load := by decide +kernel
  have f22 := hts (.fieldLink RX2 22 "PumiceSledge$Sledge" "aboard" "I") (by decide +kernel)
  refine lv_aload_n hx hb dX2_load_0 rfl (lv_at hl 0 rfl) ?_
  refine z_cVi (As := []) (rest := []) (k := (10 + i)) S hE hW (cX2_isFull_ok l D n ad cy sa s.heap.size hn al ex i hi ) (cwV 0 hts gX2_load_X2_isFull rfl rfl rfl (by decide +kernel) ⟨Nat.le_of_ble_eq_true rfl, Nat.le_of_ble_eq_true rfl⟩) (Nat.lt_of_lt_of_le (kC_s hi) hn) (cC_s (i := i) hi) rfl rfl rfl hl.1 rfl (Nat.le_of_ble_eq_true rfl) dX2_load_1 ⟨Nat.le_of_ble_eq_true rfl, Nat.le_of_ble_eq_true rfl⟩ (fun r _ H locs hp hW => ?_)
  subst hp
  refine lv_if_ne (tgt := 27) hx hb dX2_load_4 (by decide) (fun h => absurd (zb_pf hnf) h) (fun _ => ?_)
  refine lv_aload_n hx hb dX2_load_7 rfl (lv_at hl 0 rfl) ?_
  refine z_get (C := RX2) (T := TX2) (N := 5) (ci := 2) S hE hW hi2 rfl (Nat.lt_of_lt_of_le (kC_s hi) hn) (cC_s (i := i) hi) 1 (by decide) rfl f9 (v := .ref (ad (17 + i))) rfl dX2_load_8 ?_
  refine lv_aload_n hx hb dX2_load_11 rfl (lv_at hl 0 rfl) ?_
  refine z_get (C := RX2) (T := TX2) (N := 5) (ci := 2) S hE hW hi2 rfl (Nat.lt_of_lt_of_le (kC_s hi) hn) (cC_s (i := i) hi) 2 (by decide) rfl f22 (v := .int (al (10 + i) 2)) rfl dX2_load_12 ?_
  refine lv_iload_n hx hb dX2_load_15 rfl (lv_at hl 1 rfl) ?_
  refine z_ast (ce' := cC cy ad (zup al (17 + i) a x) ex) S hE hW (Nat.lt_of_lt_of_le (kC_w hi) hn) (cC_w (i := i) hi) a ha ha8 (by decide) (pC_w (i := i) hi) (fun j h => cC_o h) dX2_load_16 (fun H locs hW => ?_)
  refine lv_aload_n hx hb dX2_load_17 rfl (lv_at hl 0 rfl) ?_
  refine lv_dup hx hb dX2_load_18 rfl ?_
  refine z_get (C := RX2) (T := TX2) (N := 5) (ci := 2) S hE hW hi2 rfl (Nat.lt_of_lt_of_le (kC_s hi) hn) (cC_s (i := i) hi) 2 (by decide) rfl f22 (v := .int (al (10 + i) 2)) (congrArg (fun z => some (Value.int z)) (congrFun (zup_o (by omega)) 2)) dX2_load_19 ?_
  refine lv_iconst (v := 1) hx hb dX2_load_22 (by decide) ?_
  refine lv_iadd hx hb dX2_load_23 ?_
  refine z_put (ce' := cC cy ad (zup (zup al (17 + i) a x) (10 + i) 2 (al (10 + i) 2 + 1)) ex) (C := RX2) (T := TX2) (N := 5) (ci := 2) S hE hW hi2 tyX2 tyX2_ok nmX2 rfl (Nat.lt_of_lt_of_le (kC_s hi) hn) (cC_s (i := i) hi) 2 (by decide) rfl f22 rfl rfl (Nat.le_of_ble_eq_true rfl) (pC_s (i := i) hi (by decide)) (fun j h => cC_o h) dX2_load_24 (fun H locs hW => ?_)
  exact ze_v S hW hr hlk () rfl trivial (Nat.le_of_ble_eq_true rfl) (Nat.le_of_ble_eq_true rfl) dX2_load_27
set_option maxHeartbeats 4000000 in
set_option maxRecDepth 100000 in
theorem cX2_lastKind_ok (l : Launch) (D : va_G) (n : Nat) (ad cy sa : Nat → Nat) (sz : Nat) (hn : 28 ≤ n) (al : Nat → Nat → Int32) (ex : Nat → va_E) (i : Nat) (hi : i < 7) (a : Nat) (ha : al (10 + i) 2 = nI a) (ha8 : a ≤ 8) : Met l yX2_lastKind wsX2_lastKind ({ frames := 1, cells := 0, slots := 0, locals := 20 }) (PW D n ad cy sa sz (cC cy ad al ex) [.ref (ad (10 + i))]) (QDi D n ad sz (if al (10 + i) 2 ≤ 0 then (-1) else knd (al (17 + i) (a - 1))) (cC cy ad al ex)) 0 0 (Acc n ad sz) := by
  refine zs_met (cc := cX2_lastKind) (maxL := 1) (ret := (some .int)) (own := RX2) (by decide) rfl rfl (Nat.le_of_ble_eq_true rfl) ?_
  intro p e s m args below meth c ls S hE hW hr hlk hsz hav hl
  subst hsz
  have hx := S.1
  have hb := S.2.1
  have hown := S.2.2.2.1
  have hts := S.2.2.2.2
  have hl : lv_has ls 1 [(0, .ref (ad (10 + i)))] := hl
  have f22 := hts (.fieldLink RX2 22 "PumiceSledge$Sledge" "aboard" "I") (by decide +kernel)
  have hi2 : ∀ w ∈ wsX20, w ∈ wsX2_lastKind := by decide +kernel
  have f9 := hts (.fieldLink RX2 9 "PumiceSledge$Sledge" "weights" "[I") (by decide +kernel)
  have in_X3 := hts (.initialized RX3) (by decide +kernel)
  have stt_X3_kindOf := hts (.static yX3_kindOf) (by decide +kernel)
  refine lv_aload_n hx hb dX2_lastKind_0 rfl (lv_at hl 0 rfl) ?_
  refine z_get (C := RX2) (T := TX2) (N := 5) (ci := 2) S hE hW hi2 rfl (Nat.lt_of_lt_of_le (kC_s hi) hn) (cC_s (i := i) hi) 2 (by decide) rfl f22 (v := .int (al (10 + i) 2)) rfl dX2_lastKind_1 ?_
  refine lv_if_le (tgt := 24) hx hb dX2_lastKind_4 (by decide) (fun c4 => ?_) (fun c4 => ?_)
  · refine lv_iconst (v := (-1)) hx hb dX2_lastKind_24 (by decide) ?_
    exact ze_i S hW hr hlk () rfl (by rw [if_pos c4]) (Nat.le_of_ble_eq_true rfl) (Nat.le_of_ble_eq_true rfl) dX2_lastKind_25
  · have ha1 : al (10 + i) 2 - 1 = nI (a - 1) ∧ a - 1 < 8 := z_pred ha ha8 c4
    refine lv_aload_n hx hb dX2_lastKind_7 rfl (lv_at hl 0 rfl) ?_
    refine z_get (C := RX2) (T := TX2) (N := 5) (ci := 2) S hE hW hi2 rfl (Nat.lt_of_lt_of_le (kC_s hi) hn) (cC_s (i := i) hi) 1 (by decide) rfl f9 (v := .ref (ad (17 + i))) rfl dX2_lastKind_8 ?_
    refine lv_aload_n hx hb dX2_lastKind_11 rfl (lv_at hl 0 rfl) ?_
    refine z_get (C := RX2) (T := TX2) (N := 5) (ci := 2) S hE hW hi2 rfl (Nat.lt_of_lt_of_le (kC_s hi) hn) (cC_s (i := i) hi) 2 (by decide) rfl f22 (v := .int (al (10 + i) 2)) rfl dX2_lastKind_12 ?_
    refine lv_iconst (v := 1) hx hb dX2_lastKind_15 (by decide) ?_
    refine lv_isub hx hb dX2_lastKind_16 ?_
    refine z_ald S hE hW (Nat.lt_of_lt_of_le (kC_w hi) hn) (cC_w (i := i) hi) (a - 1) ha1.1 ha1.2 (by decide) (v := al (17 + i) (a - 1)) rfl dX2_lastKind_17 ?_
    refine z_pSN (As := [.int (al (17 + i) (a - 1))]) (rest := []) S hE hW (cX3_kindOf_ok l (al (17 + i) (a - 1))) (⟨va_cnB 1 hts gX2_lastKind_X3_kindOf_n32 rfl rfl rfl (hE.1.2.1.at 15 rfl) in_X3 (by decide +kernel) ⟨Nat.le_of_ble_eq_true rfl, Nat.le_of_ble_eq_true rfl⟩, stt_X3_kindOf, trivial⟩) rfl hl.1 rfl (Nat.le_of_ble_eq_true rfl) dX2_lastKind_18 ⟨Nat.le_of_ble_eq_true rfl, Nat.le_of_ble_eq_true rfl⟩ (fun H locs hW => ?_)
    refine lv_goto (tgt := 25) hx hb dX2_lastKind_21 (by decide) ?_
    exact ze_i S hW hr hlk () rfl (by rw [if_neg c4]) (Nat.le_of_ble_eq_true rfl) (Nat.le_of_ble_eq_true rfl) dX2_lastKind_25
set_option maxHeartbeats 4000000 in
set_option maxRecDepth 100000 in
theorem cX2_comeUp_ok (l : Launch) (D : va_G) (n : Nat) (ad cy sa : Nat → Nat) (sz : Nat) (hn : 28 ≤ n) (al : Nat → Nat → Int32) (ex : Nat → va_E) (i : Nat) (hi : i < 7) : Met l yX2_comeUp wsX2_comeUp ({ frames := 1, cells := 0, slots := 0, locals := 60 }) (PW D n ad cy sa sz (cC cy ad al ex) [.ref (ad (10 + i))]) (QDv D n ad sz (cC cy ad (climbS al i) ex)) 0 0 (Acc n ad sz) := by
  refine zs_met (cc := cX2_comeUp) (maxL := 1) (ret := none) (own := RX2) (by decide) rfl rfl (Nat.le_of_ble_eq_true rfl) ?_
  intro p e s m args below meth c ls S hE hW hr hlk hsz hav hl
  subst hsz
  have hx := S.1
  have hb := S.2.1
  have hown := S.2.2.2.1
  have hts := S.2.2.2.2
  have hl : lv_has ls 1 [(0, .ref (ad (10 + i)))] := hl
  have f15 := hts (.fieldLink RX2 15 "PumiceSledge$Sledge" "height" "I") (by decide +kernel)
  have hi2 : ∀ w ∈ wsX20, w ∈ wsX2_comeUp := by decide +kernel
  have l67 := hts (.methodLink RX2 67 Lib.Math.min.name) (by decide +kernel)
  have ls_min := hts (.static Lib.Math.min.name) (by decide +kernel)
  have li_Math := hts (.initialized "java/lang/Math") (by decide +kernel)
  have lc_min := hts (.code Lib.Math.min.name Lib.Math.min.code 2 (some .int)) (by decide +kernel)
  have f19 := hts (.fieldLink RX2 19 "PumiceSledge$Sledge" "course" "I") (by decide +kernel)
  refine lv_aload_n hx hb dX2_comeUp_0 rfl (lv_at hl 0 rfl) ?_
  refine lv_bipush (v := 20) hx hb dX2_comeUp_1 (by decide) ?_
  refine lv_aload_n hx hb dX2_comeUp_3 rfl (lv_at hl 0 rfl) ?_
  refine z_get (C := RX2) (T := TX2) (N := 5) (ci := 2) S hE hW hi2 rfl (Nat.lt_of_lt_of_le (kC_s hi) hn) (cC_s (i := i) hi) 3 (by decide) rfl f15 (v := .int (al (10 + i) 3)) rfl dX2_comeUp_4 ?_
  refine lv_iconst (v := 5) hx hb dX2_comeUp_7 (by decide) ?_
  refine lv_iadd hx hb dX2_comeUp_8 ?_
  refine z_mmin S hl.1 l67 ls_min li_Math lc_min ⟨Nat.le_of_ble_eq_true rfl, Nat.le_of_ble_eq_true rfl, Nat.le_of_ble_eq_true rfl, Nat.le_of_ble_eq_true rfl⟩ dX2_comeUp_9 (v := zmn 20 (al (10 + i) 3 + 5)) rfl ?_
  refine z_put (ce' := cC cy ad (zup al (10 + i) 3 (zmn 20 (al (10 + i) 3 + 5))) ex) (C := RX2) (T := TX2) (N := 5) (ci := 2) S hE hW hi2 tyX2 tyX2_ok nmX2 rfl (Nat.lt_of_lt_of_le (kC_s hi) hn) (cC_s (i := i) hi) 3 (by decide) rfl f15 rfl rfl (Nat.le_of_ble_eq_true rfl) (pC_s (i := i) hi (by decide)) (fun j h => cC_o h) dX2_comeUp_12 (fun H locs hW => ?_)
  refine lv_aload_n hx hb dX2_comeUp_15 rfl (lv_at hl 0 rfl) ?_
  refine z_get (C := RX2) (T := TX2) (N := 5) (ci := 2) S hE hW hi2 rfl (Nat.lt_of_lt_of_le (kC_s hi) hn) (cC_s (i := i) hi) 3 (by decide) rfl f15 (v := .int (zmn 20 (al (10 + i) 3 + 5))) (congrArg (fun z => some (Value.int z)) ((congrFun zup_k 3).trans up_s)) dX2_comeUp_16 ?_
  refine lv_bipush (v := 20) hx hb dX2_comeUp_19 (by decide) ?_
  refine lv_icmp_ne (tgt := 29) hx hb dX2_comeUp_21 (by decide) (fun c21 => ?_) (fun c21 => ?_)
  · exact ze_v S hW hr hlk () (congrArg (fun z => cC cy ad z ex) (by unfold climbS; rw [if_neg]; first | rfl | exact c21)) trivial (Nat.le_of_ble_eq_true rfl) (Nat.le_of_ble_eq_true rfl) dX2_comeUp_29
  · refine lv_aload_n hx hb dX2_comeUp_24 rfl (lv_at hl 0 rfl) ?_
    refine lv_iconst (v := 0) hx hb dX2_comeUp_25 (by decide) ?_
    refine z_put (ce' := cC cy ad (zup (zup al (10 + i) 3 (zmn 20 (al (10 + i) 3 + 5))) (10 + i) 4 0) ex) (C := RX2) (T := TX2) (N := 5) (ci := 2) S hE hW hi2 tyX2 tyX2_ok nmX2 rfl (Nat.lt_of_lt_of_le (kC_s hi) hn) (cC_s (i := i) hi) 4 (by decide) rfl f19 rfl rfl (Nat.le_of_ble_eq_true rfl) (pC_s (i := i) hi (by decide)) (fun j h => cC_o h) dX2_comeUp_26 (fun H locs hW => ?_)
    exact ze_v S hW hr hlk () (congrArg (fun z => cC cy ad z ex) (by unfold climbS; rw [if_pos]; first | rfl | exact c21)) trivial (Nat.le_of_ble_eq_true rfl) (Nat.le_of_ble_eq_true rfl) dX2_comeUp_29
