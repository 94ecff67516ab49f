/-! The law's slope: what is asked of it. -/
set_option maxHeartbeats 4000000 in
set_option maxRecDepth 100000 in
theorem cX5_weight_ok (l : Launch) (D : va_G) (n : Nat) (ad cy sa : Nat → Nat) (sz N B : Nat) (hn : 35 + 2 * N + B ≤ n) (hN6 : N ≤ 6) (hB4 : B ≤ 4) (al be : Nat → Nat → Int32) (ex : Nat → va_E) (i : Nat) (hi : i < N) (a : Nat) (ha : be (10 + i) 2 = nI a) (ha8 : a ≤ 8) : Met l yX5_weight wsX5_weight ({ frames := 0, cells := 0, slots := 0, locals := 0 }) (PW D n ad cy sa sz (sW cy ad N B al be ex) [.ref (ad (35 + 2 * i))]) (QDi D n ad sz (sumI (be (17 + i)) a) (sW cy ad N B al be ex)) 0 0 (Acc n ad sz) := by
  refine zs_met (cc := cX5_weight) (maxL := 6) (ret := (some .int)) (own := RX5) (by decide) rfl rfl (Nat.le_of_ble_eq_true rfl) ?_
  intro p e s m args below meth c ls S hE hW hr hlk hsz hav hl
  subst hsz
  have hx := S.1
  have hb := S.2.1
  have hown := S.2.2.2.1
  have hts := S.2.2.2.2
  have hl : lv_has ls 6 [(0, .ref (ad (35 + 2 * i)))] := hl
  have f13 := hts (.fieldLink RX5 13 "PumiceSledgeLaw$Sledge" "sacks" "[I") (by decide +kernel)
  have hi5 : ∀ w ∈ wsX50, w ∈ wsX5_weight := by decide +kernel
  refine lv_iconst (v := 0) hx hb dX5_weight_0 (by decide) ?_
  refine lv_istore_n (lv' := [(1, .int 0), (0, .ref (ad (35 + 2 * i)))]) hx hb dX5_weight_1 rfl hl (by decide) rfl (fun ls hl => ?_)
  refine lv_aload_n hx hb dX5_weight_2 rfl (lv_at hl 1 rfl) ?_
  refine z_get (C := RX5) (T := TX5) (N := 4) (ci := 5) S hE hW hi5 rfl (by omega) (sW_so (i := i) hi) 3 (by decide) rfl f13 (v := .ref (ad (36 + 2 * i))) rfl dX5_weight_3 ?_
  refine lv_astore_n (lv' := [(2, .ref (ad (36 + 2 * i))), (1, .int 0), (0, .ref (ad (35 + 2 * i)))]) hx hb dX5_weight_6 rfl hl (by decide) rfl (fun ls hl => ?_)
  refine lv_aload_n hx hb dX5_weight_7 rfl (lv_at hl 0 rfl) ?_
  refine z_alenG (t0 := 0) S hE hW (by omega) (sW_sal hi ha (by omega)) rfl (v := nI a) rfl dX5_weight_8 ?_
  refine lv_istore_n (lv' := [(3, .int (nI a)), (2, .ref (ad (36 + 2 * i))), (1, .int 0), (0, .ref (ad (35 + 2 * i)))]) hx hb dX5_weight_9 rfl hl (by decide) rfl (fun ls hl => ?_)
  refine lv_iconst (v := 0) hx hb dX5_weight_10 (by decide) ?_
  refine lv_istore (lv' := [(4, .int 0), (3, .int (nI a)), (2, .ref (ad (36 + 2 * i))), (1, .int 0), (0, .ref (ad (35 + 2 * i)))]) hx hb dX5_weight_11 hl (by decide) rfl (fun ls hl => ?_)
  have L13 : ∀ (kq j : Nat) (H : Heap) (locs : List Loc) (ls : Array Slot), j + kq = a → WS D n ad (sW cy ad N B al be ex) (Acc n ad s.heap.size) s.heap H locs → lv_has ls 6 [(1, .int (sumI (be (17 + i)) j)), (2, .ref (ad (36 + 2 * i))), (3, .int (nI a)), (4, .int (nI j))] → W p l e ({ frames := 0, cells := 0, slots := 0, locals := 0 }) s m args below meth c H locs 0 0 (MQ below (QDi D n ad s.heap.size (sumI (be (17 + i)) a) (sW cy ad N B al be ex)) args s 0 0 (Acc n ad s.heap.size)) (F0 m 13 ls []) := by
    intro kq
    induction kq with
    | zero =>
      intro j H locs ls hjk hW hl
      have hjN : j = a := by omega
      try rw [hjN] at hW
      try rw [hjN] at hl
      refine lv_iload hx hb dX5_weight_13 (lv_at hl 3 rfl) ?_
      refine lv_iload_n hx hb dX5_weight_15 rfl (lv_at hl 2 rfl) ?_
      refine lv_icmp_ge (tgt := 36) hx hb dX5_weight_16 (by decide) (fun _ => ?_) (fun h => absurd (nI_le (Nat.le_refl a) (by omega)) h)
      refine lv_iload_n hx hb dX5_weight_36 rfl (lv_at hl 0 rfl) ?_
      exact ze_i S hW hr hlk () rfl rfl (Nat.le_of_ble_eq_true rfl) (Nat.le_of_ble_eq_true rfl) dX5_weight_37
    | succ kq ih =>
      intro j H locs ls hjk hW hl
      have hj : j < a := by omega
      refine lv_iload hx hb dX5_weight_13 (lv_at hl 3 rfl) ?_
      refine lv_iload_n hx hb dX5_weight_15 rfl (lv_at hl 2 rfl) ?_
      refine lv_icmp_ge (tgt := 36) hx hb dX5_weight_16 (by decide) (fun h => absurd h (nI_ge hj (by omega))) (fun _ => ?_)
      refine lv_aload_n hx hb dX5_weight_19 rfl (lv_at hl 1 rfl) ?_
      refine lv_iload hx hb dX5_weight_20 (lv_at hl 3 rfl) ?_
      refine z_ald S hE hW (by omega) (sW_sal hi ha (by omega)) j rfl (by omega) (by omega) (v := be (17 + i) j) rfl dX5_weight_22 ?_
      refine lv_istore (lv' := [(5, .int (be (17 + i) j)), (1, .int (sumI (be (17 + i)) j)), (2, .ref (ad (36 + 2 * i))), (3, .int (nI a)), (4, .int (nI j))]) hx hb dX5_weight_23 hl (by decide) rfl (fun ls hl => ?_)
      refine lv_iload_n hx hb dX5_weight_25 rfl (lv_at hl 1 rfl) ?_
      refine lv_iload hx hb dX5_weight_26 (lv_at hl 0 rfl) ?_
      refine lv_iadd hx hb dX5_weight_28 ?_
      refine lv_istore_n (lv' := [(1, .int (sumI (be (17 + i)) j + be (17 + i) j)), (5, .int (be (17 + i) j)), (2, .ref (ad (36 + 2 * i))), (3, .int (nI a)), (4, .int (nI j))]) hx hb dX5_weight_29 rfl hl (by decide) rfl (fun ls hl => ?_)
      refine lv_iinc (v := nI (j + 1)) (lv' := [(4, .int (nI (j + 1))), (1, .int (sumI (be (17 + i)) j + be (17 + i) j)), (5, .int (be (17 + i) j)), (2, .ref (ad (36 + 2 * i))), (3, .int (nI a))]) hx hb dX5_weight_30 hl (k := 4) rfl (nI_1 _) (by decide) rfl (fun ls hl => ?_)
      refine lv_goto (tgt := 13) hx hb dX5_weight_33 (by decide) ?_
      exact ih (j + 1) H locs ls (by omega) hW (lv_sub hl [1, 3, 4, 0] rfl)
  exact L13 (a) 0 _ _ ls (by omega) hW (lv_sub hl [3, 2, 1, 0] rfl)

set_option maxHeartbeats 4000000 in
set_option maxRecDepth 100000 in
theorem cX4_ashore_ok (l : Launch) (D : va_G) (n : Nat) (ad cy sa : Nat → Nat) (sz N B : Nat) (hn : 35 + 2 * N + B ≤ n) (hN6 : N ≤ 6) (hB4 : B ≤ 4) (al be : Nat → Nat → Int32) (ex : Nat → va_E)  : Met l yX4_ashore wsX4_ashore ({ frames := 0, cells := 0, slots := 0, locals := 0 }) (PW D n ad cy sa sz (sW cy ad N B al be ex) [.ref (ad 28)]) (QDi D n ad sz ((be (8 + 0) 0 + be (8 + 0) 1) + be (8 + 0) 2) (sW cy ad N B al be ex)) 0 0 (Acc n ad sz) := by
  refine zs_met (cc := cX4_ashore) (maxL := 1) (ret := (some .int)) (own := RX4) (by decide) rfl rfl (Nat.le_of_ble_eq_true rfl) ?_
  intro p e s m args below meth c ls S hE hW hr hlk hsz hav hl
  subst hsz
  have hx := S.1
  have hb := S.2.1
  have hown := S.2.2.2.1
  have hts := S.2.2.2.2
  have hl : lv_has ls 1 [(0, .ref (ad 28))] := hl
  have f30 := hts (.fieldLink RX4 30 "PumiceSledgeLaw$Sim" "beach" "[I") (by decide +kernel)
  have hi4 : ∀ w ∈ wsX40, w ∈ wsX4_ashore := by decide +kernel
  refine lv_aload_n hx hb dX4_ashore_0 rfl (lv_at hl 0 rfl) ?_
  refine z_get (C := RX4) (T := TX4) (N := 9) (ci := 4) S hE hW hi4 rfl (by omega) sW_28 5 (by decide) rfl f30 (v := .ref (ad 32)) rfl dX4_ashore_1 ?_
  refine lv_iconst (v := 0) hx hb dX4_ashore_4 (by decide) ?_
  refine z_ald S hE hW (by omega) sW_32 0 rfl (by decide) (by decide) (v := be (8 + 0) 0) rfl dX4_ashore_5 ?_
  refine lv_aload_n hx hb dX4_ashore_6 rfl (lv_at hl 0 rfl) ?_
  refine z_get (C := RX4) (T := TX4) (N := 9) (ci := 4) S hE hW hi4 rfl (by omega) sW_28 5 (by decide) rfl f30 (v := .ref (ad 32)) rfl dX4_ashore_7 ?_
  refine lv_iconst (v := 1) hx hb dX4_ashore_10 (by decide) ?_
  refine z_ald S hE hW (by omega) sW_32 1 rfl (by decide) (by decide) (v := be (8 + 0) 1) rfl dX4_ashore_11 ?_
  refine lv_iadd hx hb dX4_ashore_12 ?_
  refine lv_aload_n hx hb dX4_ashore_13 rfl (lv_at hl 0 rfl) ?_
  refine z_get (C := RX4) (T := TX4) (N := 9) (ci := 4) S hE hW hi4 rfl (by omega) sW_28 5 (by decide) rfl f30 (v := .ref (ad 32)) rfl dX4_ashore_14 ?_
  refine lv_iconst (v := 2) hx hb dX4_ashore_17 (by decide) ?_
  refine z_ald S hE hW (by omega) sW_32 2 rfl (by decide) (by decide) (v := be (8 + 0) 2) rfl dX4_ashore_18 ?_
  refine lv_iadd hx hb dX4_ashore_19 ?_
  exact ze_i S hW hr hlk () rfl rfl (Nat.le_of_ble_eq_true rfl) (Nat.le_of_ble_eq_true rfl) dX4_ashore_20

set_option maxHeartbeats 4000000 in
set_option maxRecDepth 100000 in
theorem cX4_aboard_ok (l : Launch) (D : va_G) (n : Nat) (ad cy sa : Nat → Nat) (sz N B : Nat) (hn : 35 + 2 * N + B ≤ n) (hN6 : N ≤ 6) (hB4 : B ≤ 4) (al be : Nat → Nat → Int32) (ex : Nat → va_E) (hab : ∀ i, i < N → ∃ a, be (10 + i) 2 = nI a ∧ a ≤ 8) : Met l yX4_aboard wsX4_aboard ({ frames := 0, cells := 0, slots := 0, locals := 0 }) (PW D n ad cy sa sz (sW cy ad N B al be ex) [.ref (ad 28)]) (QDi D n ad sz (sumI (fun i => be (10 + i) 2) N) (sW cy ad N B al be ex)) 0 0 (Acc n ad sz) := by
  refine zs_met (cc := cX4_aboard) (maxL := 6) (ret := (some .int)) (own := RX4) (by decide) rfl rfl (Nat.le_of_ble_eq_true rfl) ?_
  intro p e s m args below meth c ls S hE hW hr hlk hsz hav hl
  subst hsz
  have hx := S.1
  have hb := S.2.1
  have hown := S.2.2.2.1
  have hts := S.2.2.2.2
  have hl : lv_has ls 6 [(0, .ref (ad 28))] := hl
  have f21 := hts (.fieldLink RX4 21 "PumiceSledgeLaw$Sim" "sledges" "[LPumiceSledgeLaw$Sledge;") (by decide +kernel)
  have hi4 : ∀ w ∈ wsX40, w ∈ wsX4_aboard := by decide +kernel
  have f49 := hts (.fieldLink RX4 49 "PumiceSledgeLaw$Sledge" "sacks" "[I") (by decide +kernel)
  have hi5 : ∀ w ∈ wsX50, w ∈ wsX4_aboard := by decide +kernel
  refine lv_iconst (v := 0) hx hb dX4_aboard_0 (by decide) ?_
  refine lv_istore_n (lv' := [(1, .int 0), (0, .ref (ad 28))]) hx hb dX4_aboard_1 rfl hl (by decide) rfl (fun ls hl => ?_)
  refine lv_aload_n hx hb dX4_aboard_2 rfl (lv_at hl 1 rfl) ?_
  refine z_get (C := RX4) (T := TX4) (N := 9) (ci := 4) S hE hW hi4 rfl (by omega) sW_28 3 (by decide) rfl f21 (v := .ref (ad 33)) rfl dX4_aboard_3 ?_
  refine lv_astore_n (lv' := [(2, .ref (ad 33)), (1, .int 0), (0, .ref (ad 28))]) hx hb dX4_aboard_6 rfl hl (by decide) rfl (fun ls hl => ?_)
  refine lv_aload_n hx hb dX4_aboard_7 rfl (lv_at hl 0 rfl) ?_
  refine z_alenG (t0 := 4) S hE hW (by omega) sW_33 rfl (v := nI N) rfl dX4_aboard_8 ?_
  refine lv_istore_n (lv' := [(3, .int (nI N)), (2, .ref (ad 33)), (1, .int 0), (0, .ref (ad 28))]) hx hb dX4_aboard_9 rfl hl (by decide) rfl (fun ls hl => ?_)
  refine lv_iconst (v := 0) hx hb dX4_aboard_10 (by decide) ?_
  refine lv_istore (lv' := [(4, .int 0), (3, .int (nI N)), (2, .ref (ad 33)), (1, .int 0), (0, .ref (ad 28))]) hx hb dX4_aboard_11 hl (by decide) rfl (fun ls hl => ?_)
  have L13 : ∀ (kq j : Nat) (H : Heap) (locs : List Loc) (ls : Array Slot), j + kq = N → WS D n ad (sW cy ad N B al be ex) (Acc n ad s.heap.size) s.heap H locs → lv_has ls 6 [(1, .int (sumI (fun i => be (10 + i) 2) j)), (2, .ref (ad 33)), (3, .int (nI N)), (4, .int (nI j))] → W p l e ({ frames := 0, cells := 0, slots := 0, locals := 0 }) s m args below meth c H locs 0 0 (MQ below (QDi D n ad s.heap.size (sumI (fun i => be (10 + i) 2) N) (sW cy ad N B al be ex)) args s 0 0 (Acc n ad s.heap.size)) (F0 m 13 ls []) := by
    intro kq
    induction kq with
    | zero =>
      intro j H locs ls hjk hW hl
      have hjN : j = N := by omega
      try rw [hjN] at hW
      try rw [hjN] at hl
      refine lv_iload hx hb dX4_aboard_13 (lv_at hl 3 rfl) ?_
      refine lv_iload_n hx hb dX4_aboard_15 rfl (lv_at hl 2 rfl) ?_
      refine lv_icmp_ge (tgt := 40) hx hb dX4_aboard_16 (by decide) (fun _ => ?_) (fun h => absurd (nI_le (Nat.le_refl N) (by omega)) h)
      refine lv_iload_n hx hb dX4_aboard_40 rfl (lv_at hl 0 rfl) ?_
      exact ze_i S hW hr hlk () rfl rfl (Nat.le_of_ble_eq_true rfl) (Nat.le_of_ble_eq_true rfl) dX4_aboard_41
    | succ kq ih =>
      intro j H locs ls hjk hW hl
      have hj : j < N := by omega
      obtain ⟨a, ha, ha8⟩ := hab j hj
      refine lv_iload hx hb dX4_aboard_13 (lv_at hl 3 rfl) ?_
      refine lv_iload_n hx hb dX4_aboard_15 rfl (lv_at hl 2 rfl) ?_
      refine lv_icmp_ge (tgt := 40) hx hb dX4_aboard_16 (by decide) (fun h => absurd h (nI_ge hj (by omega))) (fun _ => ?_)
      refine lv_aload_n hx hb dX4_aboard_19 rfl (lv_at hl 1 rfl) ?_
      refine lv_iload hx hb dX4_aboard_20 (lv_at hl 3 rfl) ?_
      refine z_aldq (t0 := 4) (C := RX5) S hE hW (by omega) sW_33 rfl j rfl (by omega) (by omega) (v := .ref (ad (35 + 2 * j))) rfl dX4_aboard_22 ?_
      refine lv_astore (lv' := [(5, .ref (ad (35 + 2 * j))), (1, .int (sumI (fun i => be (10 + i) 2) j)), (2, .ref (ad 33)), (3, .int (nI N)), (4, .int (nI j))]) hx hb dX4_aboard_23 hl (by decide) rfl (fun ls hl => ?_)
      refine lv_iload_n hx hb dX4_aboard_25 rfl (lv_at hl 1 rfl) ?_
      refine lv_aload hx hb dX4_aboard_26 (lv_at hl 0 rfl) ?_
      refine z_get (C := RX5) (T := TX5) (N := 4) (ci := 5) S hE hW hi5 rfl (by omega) (sW_so (i := j) hj) 3 (by decide) rfl f49 (v := .ref (ad (36 + 2 * j))) rfl dX4_aboard_28 ?_
      refine z_alenG (t0 := 0) S hE hW (by omega) (sW_sal hj ha (by omega)) rfl (v := nI a) rfl dX4_aboard_31 ?_
      refine z_top2 (y := be (10 + j) 2) ha.symm ?_
      refine lv_iadd hx hb dX4_aboard_32 ?_
      refine lv_istore_n (lv' := [(1, .int (sumI (fun i => be (10 + i) 2) j + be (10 + j) 2)), (5, .ref (ad (35 + 2 * j))), (2, .ref (ad 33)), (3, .int (nI N)), (4, .int (nI j))]) hx hb dX4_aboard_33 rfl hl (by decide) rfl (fun ls hl => ?_)
      refine lv_iinc (v := nI (j + 1)) (lv' := [(4, .int (nI (j + 1))), (1, .int (sumI (fun i => be (10 + i) 2) j + be (10 + j) 2)), (5, .ref (ad (35 + 2 * j))), (2, .ref (ad 33)), (3, .int (nI N))]) hx hb dX4_aboard_34 hl (k := 4) rfl (nI_1 _) (by decide) rfl (fun ls hl => ?_)
      refine lv_goto (tgt := 13) hx hb dX4_aboard_37 (by decide) ?_
      exact ih (j + 1) H locs ls (by omega) hW (lv_sub hl [1, 3, 4, 0] rfl)
  exact L13 (N) 0 _ _ ls (by omega) hW (lv_sub hl [3, 2, 1, 0] rfl)

set_option maxHeartbeats 4000000 in
set_option maxRecDepth 100000 in
theorem cX4_canSail_ok (l : Launch) (D : va_G) (n : Nat) (ad cy sa : Nat → Nat) (sz N B : Nat) (hn : 35 + 2 * N + B ≤ n) (hN6 : N ≤ 6) (hB4 : B ≤ 4) (al be : Nat → Nat → Int32) (ex : Nat → va_E) (b : Nat) (hb9 : b < B) : Met l yX4_canSail wsX4_canSail ({ frames := 1, cells := 0, slots := 0, locals := 21 }) (PW D n ad cy sa sz (sW cy ad N B al be ex) [.ref (ad (35 + 2 * N + b))]) (QDi D n ad sz (if depL (be (24 + b) 1) (be (24 + b) 2) < 21 ∧ be (24 + b) 1 - be (24 + b) 2 < 101 ∧ be (24 + b) 2 - be (24 + b) 1 < 101 then 1 else 0) (sW cy ad N B al be ex)) 0 0 (Acc n ad sz) := by
  refine zs_met (cc := cX4_canSail) (maxL := 1) (ret := (some .boolean)) (own := RX4) (by decide) rfl rfl (Nat.le_of_ble_eq_true rfl) ?_
  intro p e s m args below meth c ls S hE hW hr hlk hsz hav hl
  subst hsz
  have hx := S.1
  have hb := S.2.1
  have hown := S.2.2.2.1
  have hts := S.2.2.2.2
  have hl : lv_has ls 1 [(0, .ref (ad (35 + 2 * N + b)))] := hl
  refine lv_aload_n hx hb dX4_canSail_0 rfl (lv_at hl 0 rfl) ?_
  refine lv_iconst (v := 1) hx hb dX4_canSail_1 (by decide) ?_
  refine z_ald S hE hW (by omega) (sW_bb (b := b) hb9) 1 rfl (by decide) (by decide) (v := be (24 + b) 1) rfl dX4_canSail_2 ?_
  refine lv_aload_n hx hb dX4_canSail_3 rfl (lv_at hl 0 rfl) ?_
  refine lv_iconst (v := 2) hx hb dX4_canSail_4 (by decide) ?_
  refine z_ald S hE hW (by omega) (sW_bb (b := b) hb9) 2 rfl (by decide) (by decide) (v := be (24 + b) 2) rfl dX4_canSail_5 ?_
  refine z_pS (As := [.int (be (24 + b) 1), .int (be (24 + b) 2)]) (rest := []) S hE hW (cX4_depth_ok l (be (24 + b) 1) (be (24 + b) 2)) (va_cwS 2 hts gX4_canSail_X4_depth rfl rfl rfl (by decide +kernel) ⟨Nat.le_of_ble_eq_true rfl, Nat.le_of_ble_eq_true rfl⟩) rfl hl.1 rfl (Nat.le_of_ble_eq_true rfl) dX4_canSail_6 ⟨(Nat.le_of_ble_eq_true rfl), (Nat.le_of_ble_eq_true rfl)⟩ (fun H locs hW => ?_)
  refine lv_bipush (v := 21) hx hb dX4_canSail_9 (by decide) ?_
  refine lv_icmp_ge (tgt := 42) hx hb dX4_canSail_11 (by decide) (fun c11 => ?_) (fun c11 => ?_)
  · refine lv_iconst (v := 0) hx hb dX4_canSail_42 (by decide) ?_
    exact ze_z S hW hr hlk () rfl (by decide) ((if_neg (fun h => absurd h.1 (Int32.not_lt.mpr c11))).symm) (Nat.le_of_ble_eq_true rfl) (Nat.le_of_ble_eq_true rfl) dX4_canSail_43
  · refine lv_aload_n hx hb dX4_canSail_14 rfl (lv_at hl 0 rfl) ?_
    refine lv_iconst (v := 1) hx hb dX4_canSail_15 (by decide) ?_
    refine z_ald S hE hW (by omega) (sW_bb (b := b) hb9) 1 rfl (by decide) (by decide) (v := be (24 + b) 1) rfl dX4_canSail_16 ?_
    refine lv_aload_n hx hb dX4_canSail_17 rfl (lv_at hl 0 rfl) ?_
    refine lv_iconst (v := 2) hx hb dX4_canSail_18 (by decide) ?_
    refine z_ald S hE hW (by omega) (sW_bb (b := b) hb9) 2 rfl (by decide) (by decide) (v := be (24 + b) 2) rfl dX4_canSail_19 ?_
    refine lv_isub hx hb dX4_canSail_20 ?_
    refine lv_bipush (v := 101) hx hb dX4_canSail_21 (by decide) ?_
    refine lv_icmp_ge (tgt := 42) hx hb dX4_canSail_23 (by decide) (fun c23 => ?_) (fun c23 => ?_)
    · refine lv_iconst (v := 0) hx hb dX4_canSail_42 (by decide) ?_
      exact ze_z S hW hr hlk () rfl (by decide) ((if_neg (fun h => absurd h.2.1 (Int32.not_lt.mpr c23))).symm) (Nat.le_of_ble_eq_true rfl) (Nat.le_of_ble_eq_true rfl) dX4_canSail_43
    · refine lv_aload_n hx hb dX4_canSail_26 rfl (lv_at hl 0 rfl) ?_
      refine lv_iconst (v := 2) hx hb dX4_canSail_27 (by decide) ?_
      refine z_ald S hE hW (by omega) (sW_bb (b := b) hb9) 2 rfl (by decide) (by decide) (v := be (24 + b) 2) rfl dX4_canSail_28 ?_
      refine lv_aload_n hx hb dX4_canSail_29 rfl (lv_at hl 0 rfl) ?_
      refine lv_iconst (v := 1) hx hb dX4_canSail_30 (by decide) ?_
      refine z_ald S hE hW (by omega) (sW_bb (b := b) hb9) 1 rfl (by decide) (by decide) (v := be (24 + b) 1) rfl dX4_canSail_31 ?_
      refine lv_isub hx hb dX4_canSail_32 ?_
      refine lv_bipush (v := 101) hx hb dX4_canSail_33 (by decide) ?_
      refine lv_icmp_ge (tgt := 42) hx hb dX4_canSail_35 (by decide) (fun c35 => ?_) (fun c35 => ?_)
      · refine lv_iconst (v := 0) hx hb dX4_canSail_42 (by decide) ?_
        exact ze_z S hW hr hlk () rfl (by decide) ((if_neg (fun h => absurd h.2.2 (Int32.not_lt.mpr c35))).symm) (Nat.le_of_ble_eq_true rfl) (Nat.le_of_ble_eq_true rfl) dX4_canSail_43
      · refine lv_iconst (v := 1) hx hb dX4_canSail_38 (by decide) ?_
        refine lv_goto (tgt := 43) hx hb dX4_canSail_39 (by decide) ?_
        exact ze_z S hW hr hlk () rfl (by decide) ((if_pos ⟨Int32.not_le.mp c11, Int32.not_le.mp c23, Int32.not_le.mp c35⟩).symm) (Nat.le_of_ble_eq_true rfl) (Nat.le_of_ble_eq_true rfl) dX4_canSail_43
