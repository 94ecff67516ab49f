/-! small methods of the sledge side -/
set_option maxHeartbeats 4000000 in
set_option maxRecDepth 100000 in
theorem cX3_isSledge_ok (l : Launch) (D : va_G) (n : Nat) (ad cy sa : Nat → Nat) (sz : Nat) (hn : 28 ≤ n) (al : Nat → Nat → Int32) (ex : Nat → va_E) (x : Int32) : Met l yX3_isSledge wsX3_isSledge ({ frames := 0, cells := 0, slots := 0, locals := 0 }) (PW D n ad cy sa sz (cC cy ad al ex) [.ref (ad 0), .int x]) (QDi D n ad sz (if (¬ x < 0 ∧ ¬ al 0 4 ≤ x) then 1 else 0) (cC cy ad al ex)) 0 0 (Acc n ad sz) := by
  refine zs_met (cc := cX3_isSledge) (maxL := 2) (ret := (some .boolean)) (own := RX3) (by decide) rfl rfl (Nat.le_of_ble_eq_true rfl) ?_
  intro p e s m args below meth c ls S hE hW hr hlk hsz hav hl
  subst hsz
  have hx := S.1
  have hb := S.2.1
  have hown := S.2.2.2.1
  have hts := S.2.2.2.2
  have hl : lv_has ls 2 [(0, .ref (ad 0)), (1, .int x)] := hl
  have f75 := hts (.fieldLink RX3 75 "PumiceSledge" "sledgeCount" "I") (by decide +kernel)
  have hi3 : ∀ w ∈ wsX30, w ∈ wsX3_isSledge := by decide +kernel
  refine lv_iload_n hx hb dX3_isSledge_0 rfl (lv_at hl 1 rfl) ?_
  refine lv_if_lt (tgt := 16) hx hb dX3_isSledge_1 (by decide) (fun c1 => ?_) (fun c1 => ?_)
  · refine lv_iconst (v := 0) hx hb dX3_isSledge_16 (by decide) ?_
    exact ze_z S hW hr hlk () rfl (by decide) ((if_neg (fun h => h.1 c1)).symm) (Nat.le_of_ble_eq_true rfl) (Nat.le_of_ble_eq_true rfl) dX3_isSledge_17
  · refine lv_iload_n hx hb dX3_isSledge_4 rfl (lv_at hl 1 rfl) ?_
    refine lv_aload_n hx hb dX3_isSledge_5 rfl (lv_at hl 0 rfl) ?_
    refine z_get (C := RX3) (T := TX3) (N := 12) (ci := 3) S hE hW hi3 rfl (Nat.lt_of_lt_of_le (by decide) hn) cC_0 4 (by decide) rfl f75 (v := .int (al 0 4)) rfl dX3_isSledge_6 ?_
    refine lv_icmp_ge (tgt := 16) hx hb dX3_isSledge_9 (by decide) (fun c9 => ?_) (fun c9 => ?_)
    · refine lv_iconst (v := 0) hx hb dX3_isSledge_16 (by decide) ?_
      exact ze_z S hW hr hlk () rfl (by decide) ((if_neg (fun h => h.2 c9)).symm) (Nat.le_of_ble_eq_true rfl) (Nat.le_of_ble_eq_true rfl) dX3_isSledge_17
    · refine lv_iconst (v := 1) hx hb dX3_isSledge_12 (by decide) ?_
      refine lv_goto (tgt := 17) hx hb dX3_isSledge_13 (by decide) ?_
      exact ze_z S hW hr hlk () rfl (by decide) ((if_pos ⟨c1, c9⟩).symm) (Nat.le_of_ble_eq_true rfl) (Nat.le_of_ble_eq_true rfl) dX3_isSledge_17
set_option maxHeartbeats 4000000 in
set_option maxRecDepth 100000 in
theorem cX3_isBoat_ok (l : Launch) (D : va_G) (n : Nat) (ad cy sa : Nat → Nat) (sz : Nat) (hn : 28 ≤ n) (al : Nat → Nat → Int32) (ex : Nat → va_E) (x : Int32) : Met l yX3_isBoat wsX3_isBoat ({ frames := 0, cells := 0, slots := 0, locals := 0 }) (PW D n ad cy sa sz (cC cy ad al ex) [.ref (ad 0), .int x]) (QDi D n ad sz (if (¬ x < 0 ∧ ¬ al 0 6 ≤ x) then 1 else 0) (cC cy ad al ex)) 0 0 (Acc n ad sz) := by
  refine zs_met (cc := cX3_isBoat) (maxL := 2) (ret := (some .boolean)) (own := RX3) (by decide) rfl rfl (Nat.le_of_ble_eq_true rfl) ?_
  intro p e s m args below meth c ls S hE hW hr hlk hsz hav hl
  subst hsz
  have hx := S.1
  have hb := S.2.1
  have hown := S.2.2.2.1
  have hts := S.2.2.2.2
  have hl : lv_has ls 2 [(0, .ref (ad 0)), (1, .int x)] := hl
  have f121 := hts (.fieldLink RX3 121 "PumiceSledge" "boatCount" "I") (by decide +kernel)
  have hi3 : ∀ w ∈ wsX30, w ∈ wsX3_isBoat := by decide +kernel
  refine lv_iload_n hx hb dX3_isBoat_0 rfl (lv_at hl 1 rfl) ?_
  refine lv_if_lt (tgt := 16) hx hb dX3_isBoat_1 (by decide) (fun c1 => ?_) (fun c1 => ?_)
  · refine lv_iconst (v := 0) hx hb dX3_isBoat_16 (by decide) ?_
    exact ze_z S hW hr hlk () rfl (by decide) ((if_neg (fun h => h.1 c1)).symm) (Nat.le_of_ble_eq_true rfl) (Nat.le_of_ble_eq_true rfl) dX3_isBoat_17
  · refine lv_iload_n hx hb dX3_isBoat_4 rfl (lv_at hl 1 rfl) ?_
    refine lv_aload_n hx hb dX3_isBoat_5 rfl (lv_at hl 0 rfl) ?_
    refine z_get (C := RX3) (T := TX3) (N := 12) (ci := 3) S hE hW hi3 rfl (Nat.lt_of_lt_of_le (by decide) hn) cC_0 6 (by decide) rfl f121 (v := .int (al 0 6)) rfl dX3_isBoat_6 ?_
    refine lv_icmp_ge (tgt := 16) hx hb dX3_isBoat_9 (by decide) (fun c9 => ?_) (fun c9 => ?_)
    · refine lv_iconst (v := 0) hx hb dX3_isBoat_16 (by decide) ?_
      exact ze_z S hW hr hlk () rfl (by decide) ((if_neg (fun h => h.2 c9)).symm) (Nat.le_of_ble_eq_true rfl) (Nat.le_of_ble_eq_true rfl) dX3_isBoat_17
    · refine lv_iconst (v := 1) hx hb dX3_isBoat_12 (by decide) ?_
      refine lv_goto (tgt := 17) hx hb dX3_isBoat_13 (by decide) ?_
      exact ze_z S hW hr hlk () rfl (by decide) ((if_pos ⟨c1, c9⟩).symm) (Nat.le_of_ble_eq_true rfl) (Nat.le_of_ble_eq_true rfl) dX3_isBoat_17
set_option maxHeartbeats 4000000 in
set_option maxRecDepth 100000 in
theorem cX3_sackWeight_ok (l : Launch) (D : va_G) (n : Nat) (ad cy sa : Nat → Nat) (sz : Nat) (hn : 28 ≤ n) (al : Nat → Nat → Int32) (ex : Nat → va_E) (j : Nat) (hj : j < 5) : Met l yX3_sackWeight wsX3_sackWeight ({ frames := 0, cells := 0, slots := 0, locals := 0 }) (PW D n ad cy sa sz (cC cy ad al ex) [.ref (ad 0), .int (nI j)]) (QDi D n ad sz (10 * al 2 j) (cC cy ad al ex)) 0 0 (Acc n ad sz) := by
  refine zs_met (cc := cX3_sackWeight) (maxL := 2) (ret := (some .int)) (own := RX3) (by decide) rfl rfl (Nat.le_of_ble_eq_true rfl) ?_
  intro p e s m args below meth c ls S hE hW hr hlk hsz hav hl
  subst hsz
  have hx := S.1
  have hb := S.2.1
  have hown := S.2.2.2.1
  have hts := S.2.2.2.2
  have hl : lv_has ls 2 [(0, .ref (ad 0)), (1, .int (nI j))] := hl
  have f13 := hts (.fieldLink RX3 13 "PumiceSledge" "stoneWeights" "[I") (by decide +kernel)
  have hi3 : ∀ w ∈ wsX30, w ∈ wsX3_sackWeight := by decide +kernel
  refine lv_bipush (v := 10) hx hb dX3_sackWeight_0 (by decide) ?_
  refine lv_aload_n hx hb dX3_sackWeight_2 rfl (lv_at hl 0 rfl) ?_
  refine z_get (C := RX3) (T := TX3) (N := 12) (ci := 3) S hE hW hi3 rfl (Nat.lt_of_lt_of_le (by decide) hn) cC_0 1 (by decide) rfl f13 (v := .ref (ad 2)) rfl dX3_sackWeight_3 ?_
  refine lv_iload_n hx hb dX3_sackWeight_6 rfl (lv_at hl 1 rfl) ?_
  refine z_ald S hE hW (Nat.lt_of_lt_of_le (by decide) hn) cC_2 j rfl (by omega) (by decide) (v := al 2 j) rfl dX3_sackWeight_7 ?_
  refine lv_imul hx hb dX3_sackWeight_8 ?_
  exact ze_i S hW hr hlk () rfl rfl (Nat.le_of_ble_eq_true rfl) (Nat.le_of_ble_eq_true rfl) dX3_sackWeight_9
set_option maxHeartbeats 4000000 in
set_option maxRecDepth 100000 in
theorem cX3_gustAt_ok (l : Launch) (D : va_G) (n : Nat) (ad cy sa : Nat → Nat) (sz : Nat) (hn : 28 ≤ n) (al : Nat → Nat → Int32) (ex : Nat → va_E) (h : Nat) (hh : h < 2 ^ 31) : Met l yX3_gustAt wsX3_gustAt ({ frames := 1, cells := 0, slots := 0, locals := 22 }) (PW D n ad cy sa sz (cC cy ad al ex) [.ref (ad 0), .int (nI h)]) (QDi D n ad sz (al 3 (h % 8)) (cC cy ad al ex)) 0 0 (Acc n ad sz) := by
  refine zs_met (cc := cX3_gustAt) (maxL := 2) (ret := (some .int)) (own := RX3) (by decide) rfl rfl (Nat.le_of_ble_eq_true rfl) ?_
  intro p e s m args below meth c ls S hE hW hr hlk hsz hav hl
  subst hsz
  have hx := S.1
  have hb := S.2.1
  have hown := S.2.2.2.1
  have hts := S.2.2.2.2
  have hl : lv_has ls 2 [(0, .ref (ad 0)), (1, .int (nI h))] := hl
  have f16 := hts (.fieldLink RX3 16 "PumiceSledge" "gusts" "[I") (by decide +kernel)
  have hi3 : ∀ w ∈ wsX30, w ∈ wsX3_gustAt := by decide +kernel
  refine lv_aload_n hx hb dX3_gustAt_0 rfl (lv_at hl 0 rfl) ?_
  refine z_get (C := RX3) (T := TX3) (N := 12) (ci := 3) S hE hW hi3 rfl (Nat.lt_of_lt_of_le (by decide) hn) cC_0 2 (by decide) rfl f16 (v := .ref (ad 3)) rfl dX3_gustAt_1 ?_
  refine lv_iload_n hx hb dX3_gustAt_4 rfl (lv_at hl 1 rfl) ?_
  refine lv_bipush (v := 8) hx hb dX3_gustAt_5 (by decide) ?_
  refine z_pS (As := [.int (nI h), .int 8]) (rest := [.ref (ad 3)]) S hE hW (cJ9_floorMod_7cf53_ok l h hh) (va_cwS 2 hts gX3_gustAt_J9_floorMod_7cf53 rfl rfl rfl (by decide +kernel) ⟨Nat.le_of_ble_eq_true rfl, Nat.le_of_ble_eq_true rfl⟩) rfl hl.1 rfl (Nat.le_of_ble_eq_true rfl) dX3_gustAt_7 ⟨Nat.le_of_ble_eq_true rfl, Nat.le_of_ble_eq_true rfl⟩ (fun H locs hW => ?_)
  refine z_ald S hE hW (Nat.lt_of_lt_of_le (by decide) hn) cC_3 (h % 8) rfl (Nat.mod_lt _ (by decide)) (by decide) (v := al 3 (h % 8)) rfl dX3_gustAt_10 ?_
  exact ze_i S hW hr hlk () rfl rfl (Nat.le_of_ble_eq_true rfl) (Nat.le_of_ble_eq_true rfl) dX3_gustAt_11
set_option maxHeartbeats 4000000 in
set_option maxRecDepth 100000 in
theorem cX3_sacksAboard_ok (l : Launch) (D : va_G) (n : Nat) (ad cy sa : Nat → Nat) (sz : Nat) (hn : 28 ≤ n) (al : Nat → Nat → Int32) (ex : Nat → va_E) (N : Nat) (hN : al 0 4 = nI N) (hN6 : N ≤ 6) : Met l yX3_sacksAboard wsX3_sacksAboard ({ frames := 0, cells := 0, slots := 0, locals := 0 }) (PW D n ad cy sa sz (cC cy ad al ex) [.ref (ad 0)]) (QDi D n ad sz (sumI (fun i => al (10 + i) 2) N) (cC cy ad al ex)) 0 0 (Acc n ad sz) := by
  refine zs_met (cc := cX3_sacksAboard) (maxL := 3) (ret := (some .int)) (own := RX3) (by decide) rfl rfl (Nat.le_of_ble_eq_true rfl) ?_
  intro p e s m args below meth c ls S hE hW hr hlk hsz hav hl
  subst hsz
  have hx := S.1
  have hb := S.2.1
  have hown := S.2.2.2.1
  have hts := S.2.2.2.2
  have hl : lv_has ls 3 [(0, .ref (ad 0))] := hl
  have f75 := hts (.fieldLink RX3 75 "PumiceSledge" "sledgeCount" "I") (by decide +kernel)
  have hi3 : ∀ w ∈ wsX30, w ∈ wsX3_sacksAboard := by decide +kernel
  have f21 := hts (.fieldLink RX3 21 "PumiceSledge" "sledges" "[LPumiceSledge$Sledge;") (by decide +kernel)
  have hi2 : ∀ w ∈ wsX20, w ∈ wsX3_sacksAboard := by decide +kernel
  refine lv_iconst (v := 0) hx hb dX3_sacksAboard_0 (by decide) ?_
  refine lv_istore_n (lv' := [(1, .int 0), (0, .ref (ad 0))]) hx hb dX3_sacksAboard_1 rfl hl (by decide) rfl (fun ls hl => ?_)
  refine lv_iconst (v := 0) hx hb dX3_sacksAboard_2 (by decide) ?_
  refine lv_istore_n (lv' := [(2, .int 0), (1, .int 0), (0, .ref (ad 0))]) hx hb dX3_sacksAboard_3 rfl hl (by decide) rfl (fun ls hl => ?_)
  have L4 : ∀ (kq j : Nat) (H : Heap) (locs : List Loc) (ls : Array Slot), j + kq = N → WS D n ad (cC cy ad al ex) (Acc n ad s.heap.size) s.heap H locs → lv_has ls 3 [(0, .ref (ad 0)), (1, .int (sumI (fun i => al (10 + i) 2) j)), (2, .int (nI j))] → W p l e { frames := 0, cells := 0, slots := 0, locals := 0 } s m args below meth c H locs 0 0 (MQ below (QDi D n ad s.heap.size (sumI (fun i => al (10 + i) 2) N) (cC cy ad al ex)) args s 0 0 (Acc n ad s.heap.size)) (F0 m 4 ls []) := by
    intro kq
    induction kq with
    | zero =>
      intro j H locs ls hjk hW hl
      have hjN : j = N := by omega
      try rw [hjN] at hW
      try rw [hjN] at hl
      refine lv_iload_n hx hb dX3_sacksAboard_4 rfl (lv_at hl 2 rfl) ?_
      refine lv_aload_n hx hb dX3_sacksAboard_5 rfl (lv_at hl 0 rfl) ?_
      refine z_get (C := RX3) (T := TX3) (N := 12) (ci := 3) S hE hW hi3 rfl (Nat.lt_of_lt_of_le (by decide) hn) cC_0 4 (by decide) rfl f75 (v := .int (nI N)) (congrArg (fun z => some (Value.int z)) (hN)) dX3_sacksAboard_6 ?_
      refine lv_icmp_ge (tgt := 30) hx hb dX3_sacksAboard_9 (by decide) (fun _ => ?_) (fun h => absurd (nI_le (Nat.le_refl N) (by omega)) h)
      refine lv_iload_n hx hb dX3_sacksAboard_30 rfl (lv_at hl 1 rfl) ?_
      exact ze_i S hW hr hlk () rfl rfl (Nat.le_of_ble_eq_true rfl) (Nat.le_of_ble_eq_true rfl) dX3_sacksAboard_31
    | succ kq ih =>
      intro j H locs ls hjk hW hl
      have hj : j < N := by omega
      refine lv_iload_n hx hb dX3_sacksAboard_4 rfl (lv_at hl 2 rfl) ?_
      refine lv_aload_n hx hb dX3_sacksAboard_5 rfl (lv_at hl 0 rfl) ?_
      refine z_get (C := RX3) (T := TX3) (N := 12) (ci := 3) S hE hW hi3 rfl (Nat.lt_of_lt_of_le (by decide) hn) cC_0 4 (by decide) rfl f75 (v := .int (nI N)) (congrArg (fun z => some (Value.int z)) (hN)) dX3_sacksAboard_6 ?_
      refine lv_icmp_ge (tgt := 30) hx hb dX3_sacksAboard_9 (by decide) (fun h => absurd h (nI_ge hj (by omega))) (fun _ => ?_)
      refine lv_iload_n hx hb dX3_sacksAboard_12 rfl (lv_at hl 1 rfl) ?_
      refine lv_aload_n hx hb dX3_sacksAboard_13 rfl (lv_at hl 0 rfl) ?_
      refine z_get (C := RX3) (T := TX3) (N := 12) (ci := 3) S hE hW hi3 rfl (Nat.lt_of_lt_of_le (by decide) hn) cC_0 3 (by decide) rfl f21 (v := .ref (ad 4)) rfl dX3_sacksAboard_14 ?_
      refine lv_iload_n hx hb dX3_sacksAboard_17 rfl (lv_at hl 2 rfl) ?_
      refine z_aldq (t0 := 1) (C := RX2) S hE hW (Nat.lt_of_lt_of_le (by decide) hn) cC_4 rfl j rfl (by omega) (by decide) (v := .ref (ad (10 + j))) rfl dX3_sacksAboard_18 ?_
      refine z_getN (C := RX2) (T := TX2) (N := 5) (ci := 2) S hE hW hi2 rfl (Nat.lt_of_lt_of_le (kC_s (by omega)) hn) (cC_s (i := j) (by omega)) 2 (by decide) rfl 8 rfl (v := .int (al (10 + j) 2)) rfl dX3_sacksAboard_19 ?_
      refine lv_iadd hx hb dX3_sacksAboard_22 ?_
      refine lv_istore_n (lv' := [(1, .int (sumI (fun i => al (10 + i) 2) j + al (10 + j) 2)), (0, .ref (ad 0)), (2, .int (nI j))]) hx hb dX3_sacksAboard_23 rfl hl (by decide) rfl (fun ls hl => ?_)
      refine lv_iinc (v := nI (j + 1)) (lv' := [(2, .int (nI (j + 1))), (1, .int (sumI (fun i => al (10 + i) 2) j + al (10 + j) 2)), (0, .ref (ad 0))]) hx hb dX3_sacksAboard_24 hl (k := 2) rfl (nI_1 _) (by decide) rfl (fun ls hl => ?_)
      refine lv_goto (tgt := 4) hx hb dX3_sacksAboard_27 (by decide) ?_
      exact ih (j + 1) H locs ls (by omega) hW (lv_sub hl [2, 1, 0] rfl)
  exact L4 (N) 0 _ _ ls (by omega) hW (lv_sub hl [2, 1, 0] rfl)
set_option maxHeartbeats 4000000 in
set_option maxRecDepth 100000 in
theorem cX3_allStones_ok (l : Launch) (D : va_G) (n : Nat) (ad cy sa : Nat → Nat) (sz : Nat) (hn : 28 ≤ n) (al : Nat → Nat → Int32) (ex : Nat → va_E)  : Met l yX3_allStones wsX3_allStones ({ frames := 0, cells := 0, slots := 0, locals := 0 }) (PW D n ad cy sa sz (cC cy ad al ex) [.ref (ad 0)]) (QDi D n ad sz (sumI (al 1) 5) (cC cy ad al ex)) 0 0 (Acc n ad sz) := by
  refine zs_met (cc := cX3_allStones) (maxL := 3) (ret := (some .int)) (own := RX3) (by decide) rfl rfl (Nat.le_of_ble_eq_true rfl) ?_
  intro p e s m args below meth c ls S hE hW hr hlk hsz hav hl
  subst hsz
  have hx := S.1
  have hb := S.2.1
  have hown := S.2.2.2.1
  have hts := S.2.2.2.2
  have hl : lv_has ls 3 [(0, .ref (ad 0))] := hl
  have f9 := hts (.fieldLink RX3 9 "PumiceSledge" "stones" "[I") (by decide +kernel)
  have hi3 : ∀ w ∈ wsX30, w ∈ wsX3_allStones := by decide +kernel
  refine lv_iconst (v := 0) hx hb dX3_allStones_0 (by decide) ?_
  refine lv_istore_n (lv' := [(1, .int 0), (0, .ref (ad 0))]) hx hb dX3_allStones_1 rfl hl (by decide) rfl (fun ls hl => ?_)
  refine lv_iconst (v := 0) hx hb dX3_allStones_2 (by decide) ?_
  refine lv_istore_n (lv' := [(2, .int 0), (1, .int 0), (0, .ref (ad 0))]) hx hb dX3_allStones_3 rfl hl (by decide) rfl (fun ls hl => ?_)
  have L4 : ∀ (kq j : Nat) (H : Heap) (locs : List Loc) (ls : Array Slot), j + kq = 5 → WS D n ad (cC cy ad al ex) (Acc n ad s.heap.size) s.heap H locs → lv_has ls 3 [(0, .ref (ad 0)), (1, .int (sumI (al 1) j)), (2, .int (nI j))] → W p l e { frames := 0, cells := 0, slots := 0, locals := 0 } s m args below meth c H locs 0 0 (MQ below (QDi D n ad s.heap.size (sumI (al 1) 5) (cC cy ad al ex)) args s 0 0 (Acc n ad s.heap.size)) (F0 m 4 ls []) := by
    intro kq
    induction kq with
    | zero =>
      intro j H locs ls hjk hW hl
      have hjN : j = 5 := by omega
      try rw [hjN] at hW
      try rw [hjN] at hl
      refine lv_iload_n hx hb dX3_allStones_4 rfl (lv_at hl 2 rfl) ?_
      refine lv_iconst (v := 5) hx hb dX3_allStones_5 (by decide) ?_
      refine lv_icmp_ge (tgt := 24) hx hb dX3_allStones_6 (by decide) (fun _ => ?_) (fun h => absurd (by decide) h)
      refine lv_iload_n hx hb dX3_allStones_24 rfl (lv_at hl 1 rfl) ?_
      exact ze_i S hW hr hlk () rfl rfl (Nat.le_of_ble_eq_true rfl) (Nat.le_of_ble_eq_true rfl) dX3_allStones_25
    | succ kq ih =>
      intro j H locs ls hjk hW hl
      have hj : j < 5 := by omega
      refine lv_iload_n hx hb dX3_allStones_4 rfl (lv_at hl 2 rfl) ?_
      refine lv_iconst (v := 5) hx hb dX3_allStones_5 (by decide) ?_
      refine lv_icmp_ge (tgt := 24) hx hb dX3_allStones_6 (by decide) (fun h => absurd h (nI_ge (b := 5) hj (by decide))) (fun _ => ?_)
      refine lv_iload_n hx hb dX3_allStones_9 rfl (lv_at hl 1 rfl) ?_
      refine lv_aload_n hx hb dX3_allStones_10 rfl (lv_at hl 0 rfl) ?_
      refine z_get (C := RX3) (T := TX3) (N := 12) (ci := 3) S hE hW hi3 rfl (Nat.lt_of_lt_of_le (by decide) hn) cC_0 0 (by decide) rfl f9 (v := .ref (ad 1)) rfl dX3_allStones_11 ?_
      refine lv_iload_n hx hb dX3_allStones_14 rfl (lv_at hl 2 rfl) ?_
      refine z_ald S hE hW (Nat.lt_of_lt_of_le (by decide) hn) cC_1 j rfl (by omega) (by decide) (v := al 1 j) rfl dX3_allStones_15 ?_
      refine lv_iadd hx hb dX3_allStones_16 ?_
      refine lv_istore_n (lv' := [(1, .int (sumI (al 1) j + al 1 j)), (0, .ref (ad 0)), (2, .int (nI j))]) hx hb dX3_allStones_17 rfl hl (by decide) rfl (fun ls hl => ?_)
      refine lv_iinc (v := nI (j + 1)) (lv' := [(2, .int (nI (j + 1))), (1, .int (sumI (al 1) j + al 1 j)), (0, .ref (ad 0))]) hx hb dX3_allStones_18 hl (k := 2) rfl (nI_1 _) (by decide) rfl (fun ls hl => ?_)
      refine lv_goto (tgt := 4) hx hb dX3_allStones_21 (by decide) ?_
      exact ih (j + 1) H locs ls (by omega) hW (lv_sub hl [2, 1, 0] rfl)
  exact L4 (5) 0 _ _ ls (by omega) hW (lv_sub hl [2, 1, 0] rfl)
set_option maxHeartbeats 4000000 in
set_option maxRecDepth 100000 in
theorem cX3_passOneHour_ok (l : Launch) (D : va_G) (n : Nat) (ad cy sa : Nat → Nat) (sz : Nat) (hn : 28 ≤ n) (al : Nat → Nat → Int32) (ex : Nat → va_E) (N : Nat) (hN : al 0 4 = nI N) (hN6 : N ≤ 6) (h : Nat) (hh : al 0 8 = nI h) (hh3 : h < 2 ^ 30) (hab : abOK al) : Met l yX3_passOneHour wsX3_passOneHour ({ frames := 4, cells := 0, slots := 0, locals := 104 }) (PW D n ad cy sa sz (cC cy ad al ex) [.ref (ad 0)]) (QDv D n ad sz (cC cy ad (hourS al) ex)) 0 0 (Acc n ad sz) := by
  refine zs_met (cc := cX3_passOneHour) (maxL := 3) (ret := none) (own := RX3) (by decide) rfl rfl (Nat.le_of_ble_eq_true rfl) ?_
  intro p e s m args below meth c ls S hE hW hr hlk hsz hav hl
  subst hsz
  have hx := S.1
  have hb := S.2.1
  have hown := S.2.2.2.1
  have hts := S.2.2.2.2
  have hl : lv_has ls 3 [(0, .ref (ad 0))] := hl
  have f193 := hts (.fieldLink RX3 193 "PumiceSledge" "hour" "I") (by decide +kernel)
  have hi3 : ∀ w ∈ wsX30, w ∈ wsX3_passOneHour := by decide +kernel
  have f75 := hts (.fieldLink RX3 75 "PumiceSledge" "sledgeCount" "I") (by decide +kernel)
  have f21 := hts (.fieldLink RX3 21 "PumiceSledge" "sledges" "[LPumiceSledge$Sledge;") (by decide +kernel)
  have f34 := hts (.fieldLink RX3 34 "PumiceSledge" "shore" "LPumiceSledge$Shore;") (by decide +kernel)
  refine lv_aload_n hx hb dX3_passOneHour_0 rfl (lv_at hl 0 rfl) ?_
  refine lv_aload_n hx hb dX3_passOneHour_1 rfl (lv_at hl 0 rfl) ?_
  refine z_get (C := RX3) (T := TX3) (N := 12) (ci := 3) S hE hW hi3 rfl (Nat.lt_of_lt_of_le (by decide) hn) cC_0 8 (by decide) rfl f193 (v := .int (al 0 8)) rfl dX3_passOneHour_2 ?_
  refine z_top2 (y := nI h) (hh) ?_
  refine z_cVi (As := [.int (nI h)]) (rest := []) (k := 0) S hE hW (cX3_gustAt_ok l D n ad cy sa s.heap.size hn al ex h (by omega)) (cwV 1 hts gX3_passOneHour_X3_gustAt rfl rfl rfl (by decide +kernel) ⟨Nat.le_of_ble_eq_true rfl, Nat.le_of_ble_eq_true rfl⟩) (Nat.lt_of_lt_of_le (by decide) hn) cC_0 rfl rfl rfl hl.1 rfl (Nat.le_of_ble_eq_true rfl) dX3_passOneHour_5 ⟨Nat.le_of_ble_eq_true rfl, Nat.le_of_ble_eq_true rfl⟩ (fun r _ H locs hp hW => ?_)
  subst hp
  refine lv_istore_n (lv' := [(1, .int (al 3 (h % 8))), (0, .ref (ad 0))]) hx hb dX3_passOneHour_8 rfl hl (by decide) rfl (fun ls hl => ?_)
  refine lv_iconst (v := 0) hx hb dX3_passOneHour_9 (by decide) ?_
  refine lv_istore_n (lv' := [(2, .int 0), (1, .int (al 3 (h % 8))), (0, .ref (ad 0))]) hx hb dX3_passOneHour_10 rfl hl (by decide) rfl (fun ls hl => ?_)
  have L11 : ∀ (kq j : Nat) (H : Heap) (locs : List Loc) (ls : Array Slot), j + kq = N → WS D n ad (cC cy ad (travN al 0 (al 3 (h % 8)) j) ex) (Acc n ad s.heap.size) s.heap H locs → lv_has ls 3 [(0, .ref (ad 0)), (1, .int (al 3 (h % 8))), (2, .int (nI j))] → W p l e { frames := 4, cells := 0, slots := 0, locals := 104 } s m args below meth c H locs 0 0 (MQ below (QDv D n ad s.heap.size (cC cy ad (hourS al) ex)) args s 0 0 (Acc n ad s.heap.size)) (F0 m 11 ls []) := by
    intro kq
    induction kq with
    | zero =>
      intro j H locs ls hjk hW hl
      have hjN : j = N := by omega
      try rw [hjN] at hW
      try rw [hjN] at hl
      refine lv_iload_n hx hb dX3_passOneHour_11 rfl (lv_at hl 2 rfl) ?_
      refine lv_aload_n hx hb dX3_passOneHour_12 rfl (lv_at hl 0 rfl) ?_
      refine z_get (C := RX3) (T := TX3) (N := 12) (ci := 3) S hE hW hi3 rfl (Nat.lt_of_lt_of_le (by decide) hn) cC_0 4 (by decide) rfl f75 (v := .int (nI N)) (congrArg (fun z => some (Value.int z)) ((congrFun (travN_o (by omega) (by omega) N (fun i hi => by omega)) 4).trans hN)) dX3_passOneHour_13 ?_
      refine lv_icmp_ge (tgt := 39) hx hb dX3_passOneHour_16 (by decide) (fun _ => ?_) (fun h => absurd (nI_le (Nat.le_refl N) (by omega)) h)
      refine lv_aload_n hx hb dX3_passOneHour_39 rfl (lv_at hl 0 rfl) ?_
      refine lv_dup hx hb dX3_passOneHour_40 rfl ?_
      refine z_get (C := RX3) (T := TX3) (N := 12) (ci := 3) S hE hW hi3 rfl (Nat.lt_of_lt_of_le (by decide) hn) cC_0 8 (by decide) rfl f193 (v := .int (al 0 8)) (congrArg (fun z => some (Value.int z)) (congrFun (travN_o (by omega) (by omega) N (fun i hi => by omega)) 8)) dX3_passOneHour_41 ?_
      refine lv_iconst (v := 1) hx hb dX3_passOneHour_44 (by decide) ?_
      refine lv_iadd hx hb dX3_passOneHour_45 ?_
      refine z_put (ce' := cC cy ad (zup (travN al 0 (al 3 (h % 8)) N) 0 8 (al 0 8 + 1)) ex) (C := RX3) (T := TX3) (N := 12) (ci := 3) S hE hW hi3 tyX3 tyX3_ok nmX3 rfl (Nat.lt_of_lt_of_le (by decide) hn) cC_0 8 (by decide) rfl f193 rfl rfl (Nat.le_of_ble_eq_true rfl) (pC_0 (by decide)) (fun j h => cC_o h) dX3_passOneHour_46 (fun H locs hW => ?_)
      exact ze_v S hW hr hlk () (congrArg (fun z => cC cy ad z ex) (by unfold hourS; rw [hh, hN, ix_nI (show h < 2 ^ 31 by omega), ix_nI (show N < 2 ^ 31 by omega)])) trivial (Nat.le_of_ble_eq_true rfl) (Nat.le_of_ble_eq_true rfl) dX3_passOneHour_49
    | succ kq ih =>
      intro j H locs ls hjk hW hl
      have hj : j < N := by omega
      obtain ⟨a, ha, ha8⟩ := hab j (by omega)
      have ha9 : travN al 0 (al 3 (h % 8)) j (10 + j) 2 = nI a := (congrFun (travN_o (by omega) (by omega) j (fun i hi => by omega)) 2).trans ha
      refine lv_iload_n hx hb dX3_passOneHour_11 rfl (lv_at hl 2 rfl) ?_
      refine lv_aload_n hx hb dX3_passOneHour_12 rfl (lv_at hl 0 rfl) ?_
      refine z_get (C := RX3) (T := TX3) (N := 12) (ci := 3) S hE hW hi3 rfl (Nat.lt_of_lt_of_le (by decide) hn) cC_0 4 (by decide) rfl f75 (v := .int (nI N)) (congrArg (fun z => some (Value.int z)) ((congrFun (travN_o (by omega) (by omega) j (fun i hi => by omega)) 4).trans hN)) dX3_passOneHour_13 ?_
      refine lv_icmp_ge (tgt := 39) hx hb dX3_passOneHour_16 (by decide) (fun h => absurd h (nI_ge hj (by omega))) (fun _ => ?_)
      refine lv_aload_n hx hb dX3_passOneHour_19 rfl (lv_at hl 0 rfl) ?_
      refine z_get (C := RX3) (T := TX3) (N := 12) (ci := 3) S hE hW hi3 rfl (Nat.lt_of_lt_of_le (by decide) hn) cC_0 3 (by decide) rfl f21 (v := .ref (ad 4)) rfl dX3_passOneHour_20 ?_
      refine lv_iload_n hx hb dX3_passOneHour_23 rfl (lv_at hl 2 rfl) ?_
      refine z_aldq (t0 := 1) (C := RX2) S hE hW (Nat.lt_of_lt_of_le (by decide) hn) cC_4 rfl j rfl (by omega) (by decide) (v := .ref (ad (10 + j))) rfl dX3_passOneHour_24 ?_
      refine lv_iload_n hx hb dX3_passOneHour_25 rfl (lv_at hl 1 rfl) ?_
      refine lv_aload_n hx hb dX3_passOneHour_26 rfl (lv_at hl 0 rfl) ?_
      refine z_get (C := RX3) (T := TX3) (N := 12) (ci := 3) S hE hW hi3 rfl (Nat.lt_of_lt_of_le (by decide) hn) cC_0 7 (by decide) rfl f34 (v := .ref (ad (6 + 0))) rfl dX3_passOneHour_27 ?_
      refine z_cVv (As := [.int (al 3 (h % 8)), .ref (ad (6 + 0))]) (rest := []) (k := (10 + j)) S hE hW (cX2_travel_ok l D n ad cy sa H.size hn (travN al 0 (al 3 (h % 8)) j) ex j (by omega) 0 (by decide) a ha9 ha8 (al 3 (h % 8))) (cwV 2 hts gX3_passOneHour_X2_travel rfl rfl rfl (by decide +kernel) ⟨Nat.le_of_ble_eq_true rfl, Nat.le_of_ble_eq_true rfl⟩) (Nat.lt_of_lt_of_le (kC_s (by omega)) hn) (cC_s (i := j) (by omega)) rfl rfl rfl hl.1 rfl (Nat.le_of_ble_eq_true rfl) dX3_passOneHour_30 ⟨Nat.le_of_ble_eq_true rfl, Nat.le_of_ble_eq_true rfl⟩ (fun _ H locs _ hW => ?_)
      refine lv_iinc (v := nI (j + 1)) (lv' := [(2, .int (nI (j + 1))), (0, .ref (ad 0)), (1, .int (al 3 (h % 8)))]) hx hb dX3_passOneHour_33 hl (k := 2) rfl (nI_1 _) (by decide) rfl (fun ls hl => ?_)
      refine lv_goto (tgt := 11) hx hb dX3_passOneHour_36 (by decide) ?_
      exact ih (j + 1) H locs ls (by omega) hW (lv_sub hl [1, 2, 0] rfl)
  exact L11 (N) 0 _ _ ls (by omega) hW (lv_sub hl [2, 1, 0] rfl)
set_option maxHeartbeats 4000000 in
set_option maxRecDepth 100000 in
theorem cX3_aboardBehind_ok (l : Launch) (D : va_G) (n : Nat) (ad cy sa : Nat → Nat) (sz : Nat) (hn : 28 ≤ n) (al : Nat → Nat → Int32) (ex : Nat → va_E) (k : Nat) (hk : k < 6) (T : Nat) (hT : T < 2 ^ 20) (h : Nat) (hh : al 0 8 = nI h) (hh3 : h < 2 ^ 30) (a0 : Nat) (hk2 : al (10 + k) 2 = nI a0) (hk8 : a0 ≤ 8) : Met l yX3_aboardBehind wsX3_aboardBehind ({ frames := 4, cells := 0, slots := 0, locals := 104 }) (PW D n ad cy sa sz (cC cy ad al ex) [.ref (ad 0), .int (nI T), .ref (ad (10 + k))]) (QDi D n ad sz ((trvT (becomeS al 6 k) 6 1 (fun t => al 3 ((h + t) % 8)) T) (10 + 6) 2) (cC cy ad (trvT (becomeS al 6 k) 6 1 (fun t => al 3 ((h + t) % 8)) T) ex)) 0 0 (Acc n ad sz) := by
  refine zs_met (cc := cX3_aboardBehind) (maxL := 4) (ret := (some .int)) (own := RX3) (by decide) rfl rfl (Nat.le_of_ble_eq_true rfl) ?_
  intro p e s m args below meth c ls S hE hW hr hlk hsz hav hl
  subst hsz
  have hx := S.1
  have hb := S.2.1
  have hown := S.2.2.2.1
  have hts := S.2.2.2.2
  have hl : lv_has ls 4 [(0, .ref (ad 0)), (1, .int (nI T)), (2, .ref (ad (10 + k)))] := hl
  have f39 := hts (.fieldLink RX3 39 "PumiceSledge" "trial" "LPumiceSledge$Sledge;") (by decide +kernel)
  have hi3 : ∀ w ∈ wsX30, w ∈ wsX3_aboardBehind := by decide +kernel
  have hi2 : ∀ w ∈ wsX20, w ∈ wsX3_aboardBehind := by decide +kernel
  have f193 := hts (.fieldLink RX3 193 "PumiceSledge" "hour" "I") (by decide +kernel)
  have f43 := hts (.fieldLink RX3 43 "PumiceSledge" "trialShore" "LPumiceSledge$Shore;") (by decide +kernel)
  refine lv_aload_n hx hb dX3_aboardBehind_0 rfl (lv_at hl 0 rfl) ?_
  refine z_get (C := RX3) (T := TX3) (N := 12) (ci := 3) S hE hW hi3 rfl (Nat.lt_of_lt_of_le (by decide) hn) cC_0 10 (by decide) rfl f39 (v := .ref (ad (10 + 6))) rfl dX3_aboardBehind_1 ?_
  refine lv_aload_n hx hb dX3_aboardBehind_4 rfl (lv_at hl 2 rfl) ?_
  refine z_cVv (As := [.ref (ad (10 + k))]) (rest := []) (k := (10 + 6)) S hE hW (cX2_become_ok l D n ad cy sa s.heap.size hn al ex 6 (by decide) k (by omega) (by omega)) (cwV 1 hts gX3_aboardBehind_X2_become rfl rfl rfl (by decide +kernel) ⟨Nat.le_of_ble_eq_true rfl, Nat.le_of_ble_eq_true rfl⟩) (Nat.lt_of_lt_of_le (kC_s (by decide)) hn) (cC_s (i := 6) (by decide)) rfl rfl rfl hl.1 rfl (Nat.le_of_ble_eq_true rfl) dX3_aboardBehind_5 ⟨Nat.le_of_ble_eq_true rfl, Nat.le_of_ble_eq_true rfl⟩ (fun _ H locs _ hW => ?_)
  refine lv_iconst (v := 0) hx hb dX3_aboardBehind_8 (by decide) ?_
  refine lv_istore_n (lv' := [(3, .int 0), (0, .ref (ad 0)), (1, .int (nI T)), (2, .ref (ad (10 + k)))]) hx hb dX3_aboardBehind_9 rfl hl (by decide) rfl (fun ls hl => ?_)
  have L10 : ∀ (kq j : Nat) (H : Heap) (locs : List Loc) (ls : Array Slot), j + kq = T → WS D n ad (cC cy ad (trvT (becomeS al 6 k) 6 1 (fun t => al 3 ((h + t) % 8)) j) ex) (Acc n ad s.heap.size) s.heap H locs → lv_has ls 4 [(0, .ref (ad 0)), (1, .int (nI T)), (2, .ref (ad (10 + k))), (3, .int (nI j))] → W p l e { frames := 4, cells := 0, slots := 0, locals := 104 } s m args below meth c H locs 0 0 (MQ below (QDi D n ad s.heap.size ((trvT (becomeS al 6 k) 6 1 (fun t => al 3 ((h + t) % 8)) T) (10 + 6) 2) (cC cy ad (trvT (becomeS al 6 k) 6 1 (fun t => al 3 ((h + t) % 8)) T) ex)) args s 0 0 (Acc n ad s.heap.size)) (F0 m 10 ls []) := by
    intro kq
    induction kq with
    | zero =>
      intro j H locs ls hjk hW hl
      have hjN : j = T := by omega
      try rw [hjN] at hW
      try rw [hjN] at hl
      refine lv_iload_n hx hb dX3_aboardBehind_10 rfl (lv_at hl 3 rfl) ?_
      refine lv_iload_n hx hb dX3_aboardBehind_11 rfl (lv_at hl 1 rfl) ?_
      refine lv_icmp_ge (tgt := 42) hx hb dX3_aboardBehind_12 (by decide) (fun _ => ?_) (fun h => absurd (nI_le (Nat.le_refl T) (by omega)) h)
      refine lv_aload_n hx hb dX3_aboardBehind_42 rfl (lv_at hl 0 rfl) ?_
      refine z_get (C := RX3) (T := TX3) (N := 12) (ci := 3) S hE hW hi3 rfl (Nat.lt_of_lt_of_le (by decide) hn) cC_0 10 (by decide) rfl f39 (v := .ref (ad (10 + 6))) rfl dX3_aboardBehind_43 ?_
      refine z_getN (C := RX2) (T := TX2) (N := 5) (ci := 2) S hE hW hi2 rfl (Nat.lt_of_lt_of_le (kC_s (by decide)) hn) (cC_s (i := 6) (by decide)) 2 (by decide) rfl 8 rfl (v := .int ((trvT (becomeS al 6 k) 6 1 (fun t => al 3 ((h + t) % 8)) T) (10 + 6) 2)) rfl dX3_aboardBehind_46 ?_
      exact ze_i S hW hr hlk () rfl rfl (Nat.le_of_ble_eq_true rfl) (Nat.le_of_ble_eq_true rfl) dX3_aboardBehind_49
    | succ kq ih =>
      intro j H locs ls hjk hW hl
      have hj : j < T := by omega
      obtain ⟨a, haa, ha9⟩ := trvT_ab (al := (becomeS al 6 k)) (sh := 1) (g := (fun t => al 3 ((h + t) % 8))) (by decide) (becomeS_2.trans hk2) hk8 j
      refine lv_iload_n hx hb dX3_aboardBehind_10 rfl (lv_at hl 3 rfl) ?_
      refine lv_iload_n hx hb dX3_aboardBehind_11 rfl (lv_at hl 1 rfl) ?_
      refine lv_icmp_ge (tgt := 42) hx hb dX3_aboardBehind_12 (by decide) (fun h => absurd h (nI_ge hj (by omega))) (fun _ => ?_)
      refine lv_aload_n hx hb dX3_aboardBehind_15 rfl (lv_at hl 0 rfl) ?_
      refine z_get (C := RX3) (T := TX3) (N := 12) (ci := 3) S hE hW hi3 rfl (Nat.lt_of_lt_of_le (by decide) hn) cC_0 10 (by decide) rfl f39 (v := .ref (ad (10 + 6))) rfl dX3_aboardBehind_16 ?_
      refine lv_aload_n hx hb dX3_aboardBehind_19 rfl (lv_at hl 0 rfl) ?_
      refine lv_aload_n hx hb dX3_aboardBehind_20 rfl (lv_at hl 0 rfl) ?_
      refine z_get (C := RX3) (T := TX3) (N := 12) (ci := 3) S hE hW hi3 rfl (Nat.lt_of_lt_of_le (by decide) hn) cC_0 8 (by decide) rfl f193 (v := .int (nI h)) (congrArg (fun z => some (Value.int z)) (((congrFun (trvT_o (by omega) (by omega) (by omega) j) 8).trans (congrFun (becomeS_o (by omega) (by omega)) 8)).trans hh)) dX3_aboardBehind_21 ?_
      refine lv_iload_n hx hb dX3_aboardBehind_24 rfl (lv_at hl 3 rfl) ?_
      refine lv_iadd hx hb dX3_aboardBehind_25 ?_
      refine z_top2 (y := nI (h + j)) (nI_add h j) ?_
      refine z_cVi (As := [.int (nI (h + j))]) (rest := [.ref (ad (10 + 6))]) (k := 0) S hE hW (cX3_gustAt_ok l D n ad cy sa H.size hn (trvT (becomeS al 6 k) 6 1 (fun t => al 3 ((h + t) % 8)) j) ex (h + j) (by omega)) (cwV 1 hts gX3_aboardBehind_X3_gustAt rfl rfl rfl (by decide +kernel) ⟨Nat.le_of_ble_eq_true rfl, Nat.le_of_ble_eq_true rfl⟩) (Nat.lt_of_lt_of_le (by decide) hn) cC_0 rfl rfl rfl hl.1 rfl (Nat.le_of_ble_eq_true rfl) dX3_aboardBehind_26 ⟨Nat.le_of_ble_eq_true rfl, Nat.le_of_ble_eq_true rfl⟩ (fun r _ H locs hp hW => ?_)
      subst hp
      refine z_top2 (y := al 3 ((h + j) % 8)) (congrFun ((trvT_o (by omega) (by omega) (by omega) j).trans (becomeS_o (by omega) (by omega))) _) ?_
      refine lv_aload_n hx hb dX3_aboardBehind_29 rfl (lv_at hl 0 rfl) ?_
      refine z_get (C := RX3) (T := TX3) (N := 12) (ci := 3) S hE hW hi3 rfl (Nat.lt_of_lt_of_le (by decide) hn) cC_0 11 (by decide) rfl f43 (v := .ref (ad (6 + 1))) rfl dX3_aboardBehind_30 ?_
      refine z_cVv (As := [.int (al 3 ((h + j) % 8)), .ref (ad (6 + 1))]) (rest := []) (k := (10 + 6)) S hE hW (cX2_travel_ok l D n ad cy sa H.size hn (trvT (becomeS al 6 k) 6 1 (fun t => al 3 ((h + t) % 8)) j) ex 6 (by decide) 1 (by decide) a ha9 (by omega) (al 3 ((h + j) % 8))) (cwV 2 hts gX3_aboardBehind_X2_travel rfl rfl rfl (by decide +kernel) ⟨Nat.le_of_ble_eq_true rfl, Nat.le_of_ble_eq_true rfl⟩) (Nat.lt_of_lt_of_le (kC_s (by decide)) hn) (cC_s (i := 6) (by decide)) rfl rfl rfl hl.1 rfl (Nat.le_of_ble_eq_true rfl) dX3_aboardBehind_33 ⟨Nat.le_of_ble_eq_true rfl, Nat.le_of_ble_eq_true rfl⟩ (fun _ H locs _ hW => ?_)
      refine lv_iinc (v := nI (j + 1)) (lv' := [(3, .int (nI (j + 1))), (0, .ref (ad 0)), (1, .int (nI T)), (2, .ref (ad (10 + k)))]) hx hb dX3_aboardBehind_36 hl (k := 3) rfl (nI_1 _) (by decide) rfl (fun ls hl => ?_)
      refine lv_goto (tgt := 10) hx hb dX3_aboardBehind_39 (by decide) ?_
      exact ih (j + 1) H locs ls (by omega) hW (lv_sub hl [1, 2, 3, 0] rfl)
  exact L10 (T) 0 _ _ ls (by omega) hW (lv_sub hl [1, 2, 3, 0] rfl)
