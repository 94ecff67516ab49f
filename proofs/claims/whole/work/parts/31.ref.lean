/-! the reference: its small methods -/
theorem z_inN {x : Int32} {N i : Nat} (hx : x = nI N) (hN : N < 2 ^ 31) (h : i < N) : i < ix x := by rw [hx, ix_nI hN]; exact h
theorem z_mul12 (i f : Nat) : 12 * nI i + nI f = nI (12 * i + f) := by rw [show (12 : Int32) = nI 12 from rfl, pk_mul, nI_add]
theorem z_mul3' (i f : Nat) : 3 * nI i + nI f = nI (3 * i + f) := by rw [show (3 : Int32) = nI 3 from rfl, pk_mul, nI_add]
theorem z_last {a : Nat} (h : 0 < a) : 4 + nI a - 1 = nI (4 + (a - 1)) := by
  rw [show (4 : Int32) = nI 4 from rfl, nI_add, show 4 + a = (4 + (a - 1)) + 1 by omega, nI_pred]
theorem z_pos {a : Nat} (h : ¬ nI a = 0) : 0 < a := by
  rcases Nat.eq_zero_or_pos a with q | q
  · exact absurd (by rw [q]; rfl) h
  · exact q
theorem z_p1 {N : Nat} (hN : N < 2 ^ 31) : (nI N - 1).toInt = (N : Int) - 1 := by
  cases N with
  | zero => rfl
  | succ N => rw [nI_pred, nI_toInt (by omega)]; omega
theorem z_isS {x y : Int32} {N : Nat} (hy : y = nI N) (hN : N < 2 ^ 31) : (if zIn x 0 (y - 1) then (1 : Int32) else 0) = if (¬ x < 0 ∧ ¬ y ≤ x) then 1 else 0 := by
  have e : y - 1 < x ↔ y ≤ x := by
    rw [Int32.lt_iff_toInt_lt, Int32.le_iff_toInt_le, hy, z_p1 hN, nI_toInt hN]
    omega
  unfold zIn
  simp only [e]
theorem z_sub2 (a b c : Int32) : a - (b + c) = (a - b) - c := by
  rw [Int32.sub_eq_add_neg, Int32.neg_add, Int32.sub_eq_add_neg, Int32.sub_eq_add_neg, Int32.sub_eq_add_neg, Int32.add_assoc]
set_option maxHeartbeats 4000000 in
set_option maxRecDepth 100000 in
theorem cX4_sl_ok (l : Launch) (D : va_G) (n : Nat) (ad cy sa : Nat → Nat) (sz : Nat) (hn : 35 ≤ n) (ta : Nat → Nat → Int32) (ex : Nat → va_E) (i : Nat) (hi : i < 6) (w : Nat) (hw : w < 12) : Met l yX4_sl wsX4_sl ({ frames := 0, cells := 0, slots := 0, locals := 0 }) (PW D n ad cy sa sz (cM cy ad ta ex) [.ref (ad 28), .int (nI i), .int (nI w)]) (QDi D n ad sz (ta 4 (12 * i + w)) (cM cy ad ta ex)) 0 0 (Acc n ad sz) := by
  refine zs_met (cc := cX4_sl) (maxL := 3) (ret := (some .int)) (own := RX4) (by decide) rfl rfl (Nat.le_of_ble_eq_true rfl) ?_
  intro p e s m args below meth c ls S hE hW hr hlk hsz hav hl
  subst hsz
  have hx := S.1
  have hb := S.2.1
  have hown := S.2.2.2.1
  have hts := S.2.2.2.2
  have hl : lv_has ls 3 [(0, .ref (ad 28)), (1, .int (nI i)), (2, .int (nI w))] := hl
  have f19 := hts (.fieldLink RX4 19 "PumiceSledgeModel" "slope" "[I") (by decide +kernel)
  have hi4 : ∀ w ∈ wsX40, w ∈ wsX4_sl := by decide +kernel
  refine lv_aload_n hx hb dX4_sl_0 rfl (lv_at hl 0 rfl) ?_
  refine z_get (C := RX4) (T := TX4) (N := 9) (ci := 4) S hE hW hi4 rfl (Nat.lt_of_lt_of_le (by decide) hn) cM_0 6 (by decide) rfl f19 (v := .ref (ad 32)) rfl dX4_sl_1 ?_
  refine lv_bipush (v := 12) hx hb dX4_sl_4 (by decide) ?_
  refine lv_iload_n hx hb dX4_sl_6 rfl (lv_at hl 1 rfl) ?_
  refine lv_imul hx hb dX4_sl_7 ?_
  refine lv_iload_n hx hb dX4_sl_8 rfl (lv_at hl 2 rfl) ?_
  refine lv_iadd hx hb dX4_sl_9 ?_
  refine z_ald S hE hW (Nat.lt_of_lt_of_le (by decide) hn) cM_4 (12 * i + w) (z_mul12 i w) (by omega) (by decide) (v := ta 4 (12 * i + w)) rfl dX4_sl_10 ?_
  exact ze_i S hW hr hlk () rfl rfl (Nat.le_of_ble_eq_true rfl) (Nat.le_of_ble_eq_true rfl) dX4_sl_11
set_option maxHeartbeats 4000000 in
set_option maxRecDepth 100000 in
theorem cX4_put_ok (l : Launch) (D : va_G) (n : Nat) (ad cy sa : Nat → Nat) (sz : Nat) (hn : 35 ≤ n) (ta : Nat → Nat → Int32) (ex : Nat → va_E) (i : Nat) (hi : i < 6) (w : Nat) (hw : w < 12) (v : Int32) : Met l yX4_put wsX4_put ({ frames := 0, cells := 0, slots := 0, locals := 0 }) (PW D n ad cy sa sz (cM cy ad ta ex) [.ref (ad 28), .int (nI i), .int (nI w), .int v]) (QDv D n ad sz (cM cy ad (zup ta 4 (12 * i + w) v) ex)) 0 0 (Acc n ad sz) := by
  refine zs_met (cc := cX4_put) (maxL := 4) (ret := none) (own := RX4) (by decide) rfl rfl (Nat.le_of_ble_eq_true rfl) ?_
  intro p e s m args below meth c ls S hE hW hr hlk hsz hav hl
  subst hsz
  have hx := S.1
  have hb := S.2.1
  have hown := S.2.2.2.1
  have hts := S.2.2.2.2
  have hl : lv_has ls 4 [(0, .ref (ad 28)), (1, .int (nI i)), (2, .int (nI w)), (3, .int v)] := hl
  have f19 := hts (.fieldLink RX4 19 "PumiceSledgeModel" "slope" "[I") (by decide +kernel)
  have hi4 : ∀ w ∈ wsX40, w ∈ wsX4_put := by decide +kernel
  refine lv_aload_n hx hb dX4_put_0 rfl (lv_at hl 0 rfl) ?_
  refine z_get (C := RX4) (T := TX4) (N := 9) (ci := 4) S hE hW hi4 rfl (Nat.lt_of_lt_of_le (by decide) hn) cM_0 6 (by decide) rfl f19 (v := .ref (ad 32)) rfl dX4_put_1 ?_
  refine lv_bipush (v := 12) hx hb dX4_put_4 (by decide) ?_
  refine lv_iload_n hx hb dX4_put_6 rfl (lv_at hl 1 rfl) ?_
  refine lv_imul hx hb dX4_put_7 ?_
  refine lv_iload_n hx hb dX4_put_8 rfl (lv_at hl 2 rfl) ?_
  refine lv_iadd hx hb dX4_put_9 ?_
  refine lv_iload_n hx hb dX4_put_10 rfl (lv_at hl 3 rfl) ?_
  refine z_ast (ce' := cM cy ad (zup ta 4 (12 * i + w) v) ex) S hE hW (Nat.lt_of_lt_of_le (by decide) hn) cM_4 (12 * i + w) (z_mul12 i w) (by omega) (by decide) pM_4 (fun j h => cM_o h) dX4_put_11 (fun H locs hW => ?_)
  exact ze_v S hW hr hlk () rfl trivial (Nat.le_of_ble_eq_true rfl) (Nat.le_of_ble_eq_true rfl) dX4_put_12
set_option maxHeartbeats 4000000 in
set_option maxRecDepth 100000 in
theorem cX4_bo_ok (l : Launch) (D : va_G) (n : Nat) (ad cy sa : Nat → Nat) (sz : Nat) (hn : 35 ≤ n) (ta : Nat → Nat → Int32) (ex : Nat → va_E) (i : Nat) (hi : i < 4) (w : Nat) (hw : w < 3) : Met l yX4_bo wsX4_bo ({ frames := 0, cells := 0, slots := 0, locals := 0 }) (PW D n ad cy sa sz (cM cy ad ta ex) [.ref (ad 28), .int (nI i), .int (nI w)]) (QDi D n ad sz (ta 5 (3 * i + w)) (cM cy ad ta ex)) 0 0 (Acc n ad sz) := by
  refine zs_met (cc := cX4_bo) (maxL := 3) (ret := (some .int)) (own := RX4) (by decide) rfl rfl (Nat.le_of_ble_eq_true rfl) ?_
  intro p e s m args below meth c ls S hE hW hr hlk hsz hav hl
  subst hsz
  have hx := S.1
  have hb := S.2.1
  have hown := S.2.2.2.1
  have hts := S.2.2.2.2
  have hl : lv_has ls 3 [(0, .ref (ad 28)), (1, .int (nI i)), (2, .int (nI w))] := hl
  have f22 := hts (.fieldLink RX4 22 "PumiceSledgeModel" "fleet" "[I") (by decide +kernel)
  have hi4 : ∀ w ∈ wsX40, w ∈ wsX4_bo := by decide +kernel
  refine lv_aload_n hx hb dX4_bo_0 rfl (lv_at hl 0 rfl) ?_
  refine z_get (C := RX4) (T := TX4) (N := 9) (ci := 4) S hE hW hi4 rfl (Nat.lt_of_lt_of_le (by decide) hn) cM_0 7 (by decide) rfl f22 (v := .ref (ad 33)) rfl dX4_bo_1 ?_
  refine lv_iconst (v := 3) hx hb dX4_bo_4 (by decide) ?_
  refine lv_iload_n hx hb dX4_bo_5 rfl (lv_at hl 1 rfl) ?_
  refine lv_imul hx hb dX4_bo_6 ?_
  refine lv_iload_n hx hb dX4_bo_7 rfl (lv_at hl 2 rfl) ?_
  refine lv_iadd hx hb dX4_bo_8 ?_
  refine z_ald S hE hW (Nat.lt_of_lt_of_le (by decide) hn) cM_5 (3 * i + w) (z_mul3' i w) (by omega) (by decide) (v := ta 5 (3 * i + w)) rfl dX4_bo_9 ?_
  exact ze_i S hW hr hlk () rfl rfl (Nat.le_of_ble_eq_true rfl) (Nat.le_of_ble_eq_true rfl) dX4_bo_10
set_option maxHeartbeats 4000000 in
set_option maxRecDepth 100000 in
theorem cX4_thrown_ok (l : Launch) (D : va_G) (n : Nat) (ad cy sa : Nat → Nat) (sz : Nat) (hn : 35 ≤ n) (al : Nat → Nat → Int32) (th : Int32) (ex : Nat → va_E)  : Met l yX4_thrown wsX4_thrown ({ frames := 0, cells := 0, slots := 0, locals := 0 }) (PW D n ad cy sa sz (cM cy ad (enc al th) ex) [.ref (ad 28)]) (QDi D n ad sz (th) (cM cy ad (enc al th) ex)) 0 0 (Acc n ad sz) := by
  refine zs_met (cc := cX4_thrown) (maxL := 1) (ret := (some .int)) (own := RX4) (by decide) rfl rfl (Nat.le_of_ble_eq_true rfl) ?_
  intro p e s m args below meth c ls S hE hW hr hlk hsz hav hl
  subst hsz
  have hx := S.1
  have hb := S.2.1
  have hown := S.2.2.2.1
  have hts := S.2.2.2.2
  have hl : lv_has ls 1 [(0, .ref (ad 28))] := hl
  have f28 := hts (.fieldLink RX4 28 "PumiceSledgeModel" "thrown" "I") (by decide +kernel)
  have hi4 : ∀ w ∈ wsX40, w ∈ wsX4_thrown := by decide +kernel
  refine lv_aload_n hx hb dX4_thrown_0 rfl (lv_at hl 0 rfl) ?_
  refine z_get (C := RX4) (T := TX4) (N := 9) (ci := 4) S hE hW hi4 rfl (Nat.lt_of_lt_of_le (by decide) hn) cM_0 0 (by decide) rfl f28 (v := .int th) (congrArg (fun z => some (Value.int z)) (r_th)) dX4_thrown_1 ?_
  exact ze_i S hW hr hlk () rfl rfl (Nat.le_of_ble_eq_true rfl) (Nat.le_of_ble_eq_true rfl) dX4_thrown_4
set_option maxHeartbeats 4000000 in
set_option maxRecDepth 100000 in
theorem cX4_fail_ok (l : Launch) (D : va_G) (n : Nat) (ad cy sa : Nat → Nat) (sz : Nat) (hn : 35 ≤ n) (al : Nat → Nat → Int32) (th : Int32) (ex : Nat → va_E) (x : Int32) : Met l yX4_fail wsX4_fail ({ frames := 0, cells := 0, slots := 0, locals := 0 }) (PW D n ad cy sa sz (cM cy ad (enc al th) ex) [.ref (ad 28), .int x]) (QDi D n ad sz (0) (cM cy ad (enc al x) ex)) 0 0 (Acc n ad sz) := by
  refine zs_met (cc := cX4_fail) (maxL := 2) (ret := (some .int)) (own := RX4) (by decide) rfl rfl (Nat.le_of_ble_eq_true rfl) ?_
  intro p e s m args below meth c ls S hE hW hr hlk hsz hav hl
  subst hsz
  have hx := S.1
  have hb := S.2.1
  have hown := S.2.2.2.1
  have hts := S.2.2.2.2
  have hl : lv_has ls 2 [(0, .ref (ad 28)), (1, .int x)] := hl
  have f28 := hts (.fieldLink RX4 28 "PumiceSledgeModel" "thrown" "I") (by decide +kernel)
  have hi4 : ∀ w ∈ wsX40, w ∈ wsX4_fail := by decide +kernel
  refine lv_aload_n hx hb dX4_fail_0 rfl (lv_at hl 0 rfl) ?_
  refine lv_iload_n hx hb dX4_fail_1 rfl (lv_at hl 1 rfl) ?_
  refine z_put (ce' := cM cy ad (zup (enc al th) 0 0 x) ex) (C := RX4) (T := TX4) (N := 9) (ci := 4) S hE hW hi4 tyX4 tyX4_ok nmX4 rfl (Nat.lt_of_lt_of_le (by decide) hn) cM_0 0 (by decide) rfl f28 rfl rfl (Nat.le_of_ble_eq_true rfl) (pM_0 (by decide)) (fun j h => cM_o h) dX4_fail_2 (fun H locs hW => ?_)
  rw [e_th] at hW
  refine lv_iconst (v := 0) hx hb dX4_fail_5 (by decide) ?_
  exact ze_i S hW hr hlk () rfl rfl (Nat.le_of_ble_eq_true rfl) (Nat.le_of_ble_eq_true rfl) dX4_fail_6
set_option maxHeartbeats 4000000 in
set_option maxRecDepth 100000 in
theorem cX4_isSledge_ok (l : Launch) (D : va_G) (n : Nat) (ad cy sa : Nat → Nat) (sz : Nat) (hn : 35 ≤ n) (al : Nat → Nat → Int32) (th : Int32) (ex : Nat → va_E) (x : Int32) (N : Nat) (hN : al 0 4 = nI N) (hN6 : N ≤ 6) : Met l yX4_isSledge wsX4_isSledge ({ frames := 1, cells := 0, slots := 0, locals := 22 }) (PW D n ad cy sa sz (cM cy ad (enc al th) ex) [.ref (ad 28), .int x]) (QDi D n ad sz (if (¬ x < 0 ∧ ¬ al 0 4 ≤ x) then 1 else 0) (cM cy ad (enc al th) ex)) 0 0 (Acc n ad sz) := by
  refine zs_met (cc := cX4_isSledge) (maxL := 2) (ret := (some .boolean)) (own := RX4) (by decide) rfl rfl (Nat.le_of_ble_eq_true rfl) ?_
  intro p e s m args below meth c ls S hE hW hr hlk hsz hav hl
  subst hsz
  have hx := S.1
  have hb := S.2.1
  have hown := S.2.2.2.1
  have hts := S.2.2.2.2
  have hl : lv_has ls 2 [(0, .ref (ad 28)), (1, .int x)] := hl
  have f32 := hts (.fieldLink RX4 32 "PumiceSledgeModel" "sledges" "I") (by decide +kernel)
  have hi4 : ∀ w ∈ wsX40, w ∈ wsX4_isSledge := by decide +kernel
  refine lv_iload_n hx hb dX4_isSledge_0 rfl (lv_at hl 1 rfl) ?_
  refine lv_iconst (v := 0) hx hb dX4_isSledge_1 (by decide) ?_
  refine lv_aload_n hx hb dX4_isSledge_2 rfl (lv_at hl 0 rfl) ?_
  refine z_get (C := RX4) (T := TX4) (N := 9) (ci := 4) S hE hW hi4 rfl (Nat.lt_of_lt_of_le (by decide) hn) cM_0 1 (by decide) rfl f32 (v := .int (al 0 4)) (congrArg (fun z => some (Value.int z)) (r_n)) dX4_isSledge_3 ?_
  refine lv_iconst (v := 1) hx hb dX4_isSledge_6 (by decide) ?_
  refine lv_isub hx hb dX4_isSledge_7 ?_
  refine z_pS (As := [.int x, .int 0, .int (al 0 4 - 1)]) (rest := []) S hE hW (cX4_isIn_ok l x 0 (al 0 4 - 1)) (va_cwS 3 hts gX4_isSledge_X4_isIn rfl rfl rfl (by decide +kernel) ⟨Nat.le_of_ble_eq_true rfl, Nat.le_of_ble_eq_true rfl⟩) rfl hl.1 rfl (Nat.le_of_ble_eq_true rfl) dX4_isSledge_8 ⟨Nat.le_of_ble_eq_true rfl, Nat.le_of_ble_eq_true rfl⟩ (fun H locs hW => ?_)
  exact ze_z S hW hr hlk () rfl zb_01 (z_isS hN (by omega)) (Nat.le_of_ble_eq_true rfl) (Nat.le_of_ble_eq_true rfl) dX4_isSledge_11
set_option maxHeartbeats 4000000 in
set_option maxRecDepth 100000 in
theorem cX4_isBoat_ok (l : Launch) (D : va_G) (n : Nat) (ad cy sa : Nat → Nat) (sz : Nat) (hn : 35 ≤ n) (al : Nat → Nat → Int32) (th : Int32) (ex : Nat → va_E) (x : Int32) (B : Nat) (hB : al 0 6 = nI B) (hB4 : B ≤ 4) : Met l yX4_isBoat wsX4_isBoat ({ frames := 1, cells := 0, slots := 0, locals := 22 }) (PW D n ad cy sa sz (cM cy ad (enc al th) ex) [.ref (ad 28), .int x]) (QDi D n ad sz (if (¬ x < 0 ∧ ¬ al 0 6 ≤ x) then 1 else 0) (cM cy ad (enc al th) ex)) 0 0 (Acc n ad sz) := by
  refine zs_met (cc := cX4_isBoat) (maxL := 2) (ret := (some .boolean)) (own := RX4) (by decide) rfl rfl (Nat.le_of_ble_eq_true rfl) ?_
  intro p e s m args below meth c ls S hE hW hr hlk hsz hav hl
  subst hsz
  have hx := S.1
  have hb := S.2.1
  have hown := S.2.2.2.1
  have hts := S.2.2.2.2
  have hl : lv_has ls 2 [(0, .ref (ad 28)), (1, .int x)] := hl
  have f39 := hts (.fieldLink RX4 39 "PumiceSledgeModel" "boats" "I") (by decide +kernel)
  have hi4 : ∀ w ∈ wsX40, w ∈ wsX4_isBoat := by decide +kernel
  refine lv_iload_n hx hb dX4_isBoat_0 rfl (lv_at hl 1 rfl) ?_
  refine lv_iconst (v := 0) hx hb dX4_isBoat_1 (by decide) ?_
  refine lv_aload_n hx hb dX4_isBoat_2 rfl (lv_at hl 0 rfl) ?_
  refine z_get (C := RX4) (T := TX4) (N := 9) (ci := 4) S hE hW hi4 rfl (Nat.lt_of_lt_of_le (by decide) hn) cM_0 2 (by decide) rfl f39 (v := .int (al 0 6)) (congrArg (fun z => some (Value.int z)) (r_b)) dX4_isBoat_3 ?_
  refine lv_iconst (v := 1) hx hb dX4_isBoat_6 (by decide) ?_
  refine lv_isub hx hb dX4_isBoat_7 ?_
  refine z_pS (As := [.int x, .int 0, .int (al 0 6 - 1)]) (rest := []) S hE hW (cX4_isIn_ok l x 0 (al 0 6 - 1)) (va_cwS 3 hts gX4_isBoat_X4_isIn rfl rfl rfl (by decide +kernel) ⟨Nat.le_of_ble_eq_true rfl, Nat.le_of_ble_eq_true rfl⟩) rfl hl.1 rfl (Nat.le_of_ble_eq_true rfl) dX4_isBoat_8 ⟨Nat.le_of_ble_eq_true rfl, Nat.le_of_ble_eq_true rfl⟩ (fun H locs hW => ?_)
  exact ze_z S hW hr hlk () rfl zb_01 (z_isS hB (by omega)) (Nat.le_of_ble_eq_true rfl) (Nat.le_of_ble_eq_true rfl) dX4_isBoat_11
set_option maxHeartbeats 4000000 in
set_option maxRecDepth 100000 in
theorem cX4_all_ok (l : Launch) (D : va_G) (n : Nat) (ad cy sa : Nat → Nat) (sz : Nat) (hn : 35 ≤ n) (al : Nat → Nat → Int32) (th : Int32) (ex : Nat → va_E) (i : Nat) (hi : i < 4) : Met l yX4_all wsX4_all ({ frames := 1, cells := 0, slots := 0, locals := 22 }) (PW D n ad cy sa sz (cM cy ad (enc al th) ex) [.ref (ad 28), .int (nI i)]) (QDi D n ad sz (al (24 + i) 1 + al (24 + i) 2) (cM cy ad (enc al th) ex)) 0 0 (Acc n ad sz) := by
  refine zs_met (cc := cX4_all) (maxL := 2) (ret := (some .int)) (own := RX4) (by decide) rfl rfl (Nat.le_of_ble_eq_true rfl) ?_
  intro p e s m args below meth c ls S hE hW hr hlk hsz hav hl
  subst hsz
  have hx := S.1
  have hb := S.2.1
  have hown := S.2.2.2.1
  have hts := S.2.2.2.2
  have hl : lv_has ls 2 [(0, .ref (ad 28)), (1, .int (nI i))] := hl
  refine lv_aload_n hx hb dX4_all_0 rfl (lv_at hl 0 rfl) ?_
  refine lv_iload_n hx hb dX4_all_1 rfl (lv_at hl 1 rfl) ?_
  refine lv_iconst (v := 1) hx hb dX4_all_2 (by decide) ?_
  refine z_cVi (As := [.int (nI i), .int 1]) (rest := []) (k := 28) S hE hW (cX4_bo_ok l D n ad cy sa s.heap.size hn (enc al th) ex i (by omega) 1 (by omega)) (cwV 2 hts gX4_all_X4_bo rfl rfl rfl (by decide +kernel) ⟨Nat.le_of_ble_eq_true rfl, Nat.le_of_ble_eq_true rfl⟩) (Nat.lt_of_lt_of_le (by decide) hn) cM_0 rfl rfl rfl hl.1 rfl (Nat.le_of_ble_eq_true rfl) dX4_all_3 ⟨Nat.le_of_ble_eq_true rfl, Nat.le_of_ble_eq_true rfl⟩ (fun r _ H locs hp hW => ?_)
  subst hp
  refine z_top2 (y := al (24 + i) 1) (r_f (b := i) (k := 1) (by omega) (by decide)) ?_
  refine lv_aload_n hx hb dX4_all_6 rfl (lv_at hl 0 rfl) ?_
  refine lv_iload_n hx hb dX4_all_7 rfl (lv_at hl 1 rfl) ?_
  refine lv_iconst (v := 2) hx hb dX4_all_8 (by decide) ?_
  refine z_cVi (As := [.int (nI i), .int 2]) (rest := [.int (al (24 + i) 1)]) (k := 28) S hE hW (cX4_bo_ok l D n ad cy sa H.size hn (enc al th) ex i (by omega) 2 (by omega)) (cwV 2 hts gX4_all_X4_bo rfl rfl rfl (by decide +kernel) ⟨Nat.le_of_ble_eq_true rfl, Nat.le_of_ble_eq_true rfl⟩) (Nat.lt_of_lt_of_le (by decide) hn) cM_0 rfl rfl rfl hl.1 rfl (Nat.le_of_ble_eq_true rfl) dX4_all_9 ⟨Nat.le_of_ble_eq_true rfl, Nat.le_of_ble_eq_true rfl⟩ (fun r _ H locs hp hW => ?_)
  subst hp
  refine z_top2 (y := al (24 + i) 2) (r_f (b := i) (k := 2) (by omega) (by decide)) ?_
  refine lv_iadd hx hb dX4_all_12 ?_
  exact ze_i S hW hr hlk () rfl rfl (Nat.le_of_ble_eq_true rfl) (Nat.le_of_ble_eq_true rfl) dX4_all_13
set_option maxHeartbeats 4000000 in
set_option maxRecDepth 100000 in
theorem cX4_canSail_ok (l : Launch) (D : va_G) (n : Nat) (ad cy sa : Nat → Nat) (sz : Nat) (hn : 35 ≤ n) (al : Nat → Nat → Int32) (th : Int32) (ex : Nat → va_E) (i : Nat) (hi : i < 4) : Met l yX4_canSail wsX4_canSail ({ frames := 2, cells := 0, slots := 0, locals := 81 }) (PW D n ad cy sa sz (cM cy ad (enc al th) ex) [.ref (ad 28), .int (nI i)]) (QDi D n ad sz (if (¬ 20 < dep (al (24 + i) 1) (al (24 + i) 2) ∧ zIn (al (24 + i) 1 - al (24 + i) 2) (-100) 100) then 1 else 0) (cM cy ad (enc al th) ex)) 0 0 (Acc n ad sz) := by
  refine zs_met (cc := cX4_canSail) (maxL := 2) (ret := (some .boolean)) (own := RX4) (by decide) rfl rfl (Nat.le_of_ble_eq_true rfl) ?_
  intro p e s m args below meth c ls S hE hW hr hlk hsz hav hl
  subst hsz
  have hx := S.1
  have hb := S.2.1
  have hown := S.2.2.2.1
  have hts := S.2.2.2.2
  have hl : lv_has ls 2 [(0, .ref (ad 28)), (1, .int (nI i))] := hl
  refine lv_aload_n hx hb dX4_canSail_0 rfl (lv_at hl 0 rfl) ?_
  refine lv_iload_n hx hb dX4_canSail_1 rfl (lv_at hl 1 rfl) ?_
  refine lv_iconst (v := 1) hx hb dX4_canSail_2 (by decide) ?_
  refine z_cVi (As := [.int (nI i), .int 1]) (rest := []) (k := 28) S hE hW (cX4_bo_ok l D n ad cy sa s.heap.size hn (enc al th) ex i (by omega) 1 (by omega)) (cwV 2 hts gX4_canSail_X4_bo rfl rfl rfl (by decide +kernel) ⟨Nat.le_of_ble_eq_true rfl, Nat.le_of_ble_eq_true rfl⟩) (Nat.lt_of_lt_of_le (by decide) hn) cM_0 rfl rfl rfl hl.1 rfl (Nat.le_of_ble_eq_true rfl) dX4_canSail_3 ⟨Nat.le_of_ble_eq_true rfl, Nat.le_of_ble_eq_true rfl⟩ (fun r _ H locs hp hW => ?_)
  subst hp
  refine z_top2 (y := al (24 + i) 1) (r_f (b := i) (k := 1) (by omega) (by decide)) ?_
  refine lv_aload_n hx hb dX4_canSail_6 rfl (lv_at hl 0 rfl) ?_
  refine lv_iload_n hx hb dX4_canSail_7 rfl (lv_at hl 1 rfl) ?_
  refine lv_iconst (v := 2) hx hb dX4_canSail_8 (by decide) ?_
  refine z_cVi (As := [.int (nI i), .int 2]) (rest := [.int (al (24 + i) 1)]) (k := 28) S hE hW (cX4_bo_ok l D n ad cy sa H.size hn (enc al th) ex i (by omega) 2 (by omega)) (cwV 2 hts gX4_canSail_X4_bo rfl rfl rfl (by decide +kernel) ⟨Nat.le_of_ble_eq_true rfl, Nat.le_of_ble_eq_true rfl⟩) (Nat.lt_of_lt_of_le (by decide) hn) cM_0 rfl rfl rfl hl.1 rfl (Nat.le_of_ble_eq_true rfl) dX4_canSail_9 ⟨Nat.le_of_ble_eq_true rfl, Nat.le_of_ble_eq_true rfl⟩ (fun r _ H locs hp hW => ?_)
  subst hp
  refine z_top2 (y := al (24 + i) 2) (r_f (b := i) (k := 2) (by omega) (by decide)) ?_
  refine z_pS (As := [.int (al (24 + i) 1), .int (al (24 + i) 2)]) (rest := []) S hE hW (cX4_depth_ok l (al (24 + i) 1) (al (24 + i) 2)) (va_cwS 2 hts gX4_canSail_X4_depth rfl rfl rfl (by decide +kernel) ⟨Nat.le_of_ble_eq_true rfl, Nat.le_of_ble_eq_true rfl⟩) rfl hl.1 rfl (Nat.le_of_ble_eq_true rfl) dX4_canSail_12 ⟨Nat.le_of_ble_eq_true rfl, Nat.le_of_ble_eq_true rfl⟩ (fun H locs hW => ?_)
  refine lv_bipush (v := 20) hx hb dX4_canSail_15 (by decide) ?_
  refine lv_icmp_gt (tgt := 47) hx hb dX4_canSail_17 (by decide) (fun c17 => ?_) (fun c17 => ?_)
  · refine lv_iconst (v := 0) hx hb dX4_canSail_47 (by decide) ?_
    exact ze_z S hW hr hlk () rfl (by decide) ((if_neg (fun h => h.1 c17)).symm) (Nat.le_of_ble_eq_true rfl) (Nat.le_of_ble_eq_true rfl) dX4_canSail_48
  · refine lv_aload_n hx hb dX4_canSail_20 rfl (lv_at hl 0 rfl) ?_
    refine lv_iload_n hx hb dX4_canSail_21 rfl (lv_at hl 1 rfl) ?_
    refine lv_iconst (v := 1) hx hb dX4_canSail_22 (by decide) ?_
    refine z_cVi (As := [.int (nI i), .int 1]) (rest := []) (k := 28) S hE hW (cX4_bo_ok l D n ad cy sa H.size hn (enc al th) ex i (by omega) 1 (by omega)) (cwV 2 hts gX4_canSail_X4_bo rfl rfl rfl (by decide +kernel) ⟨Nat.le_of_ble_eq_true rfl, Nat.le_of_ble_eq_true rfl⟩) (Nat.lt_of_lt_of_le (by decide) hn) cM_0 rfl rfl rfl hl.1 rfl (Nat.le_of_ble_eq_true rfl) dX4_canSail_23 ⟨Nat.le_of_ble_eq_true rfl, Nat.le_of_ble_eq_true rfl⟩ (fun r _ H locs hp hW => ?_)
    subst hp
    refine z_top2 (y := al (24 + i) 1) (r_f (b := i) (k := 1) (by omega) (by decide)) ?_
    refine lv_aload_n hx hb dX4_canSail_26 rfl (lv_at hl 0 rfl) ?_
    refine lv_iload_n hx hb dX4_canSail_27 rfl (lv_at hl 1 rfl) ?_
    refine lv_iconst (v := 2) hx hb dX4_canSail_28 (by decide) ?_
    refine z_cVi (As := [.int (nI i), .int 2]) (rest := [.int (al (24 + i) 1)]) (k := 28) S hE hW (cX4_bo_ok l D n ad cy sa H.size hn (enc al th) ex i (by omega) 2 (by omega)) (cwV 2 hts gX4_canSail_X4_bo rfl rfl rfl (by decide +kernel) ⟨Nat.le_of_ble_eq_true rfl, Nat.le_of_ble_eq_true rfl⟩) (Nat.lt_of_lt_of_le (by decide) hn) cM_0 rfl rfl rfl hl.1 rfl (Nat.le_of_ble_eq_true rfl) dX4_canSail_29 ⟨Nat.le_of_ble_eq_true rfl, Nat.le_of_ble_eq_true rfl⟩ (fun r _ H locs hp hW => ?_)
    subst hp
    refine z_top2 (y := al (24 + i) 2) (r_f (b := i) (k := 2) (by omega) (by decide)) ?_
    refine lv_isub hx hb dX4_canSail_32 ?_
    refine lv_bipush (v := (-100)) hx hb dX4_canSail_33 (by decide) ?_
    refine lv_bipush (v := 100) hx hb dX4_canSail_35 (by decide) ?_
    refine z_pS (As := [.int (al (24 + i) 1 - al (24 + i) 2), .int (-100), .int 100]) (rest := []) S hE hW (cX4_isIn_ok l (al (24 + i) 1 - al (24 + i) 2) (-100) 100) (va_cwS 3 hts gX4_canSail_X4_isIn rfl rfl rfl (by decide +kernel) ⟨Nat.le_of_ble_eq_true rfl, Nat.le_of_ble_eq_true rfl⟩) rfl hl.1 rfl (Nat.le_of_ble_eq_true rfl) dX4_canSail_37 ⟨Nat.le_of_ble_eq_true rfl, Nat.le_of_ble_eq_true rfl⟩ (fun H locs hW => ?_)
    refine lv_if_eq (tgt := 47) hx hb dX4_canSail_40 (by decide) (fun c40 => ?_) (fun c40 => ?_)
    · have c40 := zb_f c40
      refine lv_iconst (v := 0) hx hb dX4_canSail_47 (by decide) ?_
      exact ze_z S hW hr hlk () rfl (by decide) ((if_neg (fun h => c40 h.2)).symm) (Nat.le_of_ble_eq_true rfl) (Nat.le_of_ble_eq_true rfl) dX4_canSail_48
    · have c40 := zb_t c40
      refine lv_iconst (v := 1) hx hb dX4_canSail_43 (by decide) ?_
      refine lv_goto (tgt := 48) hx hb dX4_canSail_44 (by decide) ?_
      exact ze_z S hW hr hlk () rfl (by decide) ((if_pos ⟨c17, c40⟩).symm) (Nat.le_of_ble_eq_true rfl) (Nat.le_of_ble_eq_true rfl) dX4_canSail_48
set_option maxHeartbeats 4000000 in
set_option maxRecDepth 100000 in
theorem cX4_gust_ok (l : Launch) (D : va_G) (n : Nat) (ad cy sa : Nat → Nat) (sz : Nat) (hn : 35 ≤ n) (al : Nat → Nat → Int32) (th : Int32) (ex : Nat → va_E) (h : Nat) (hh : al 0 8 = nI h) (hh3 : h < 2 ^ 31) : Met l yX4_gust wsX4_gust ({ frames := 0, cells := 0, slots := 0, locals := 0 }) (PW D n ad cy sa sz (cM cy ad (enc al th) ex) [.ref (ad 28)]) (QDi D n ad sz (al 3 (h % 8)) (cM cy ad (enc al th) ex)) 0 0 (Acc n ad sz) := by
  refine zs_met (cc := cX4_gust) (maxL := 1) (ret := (some .int)) (own := RX4) (by decide) rfl rfl (Nat.le_of_ble_eq_true rfl) ?_
  intro p e s m args below meth c ls S hE hW hr hlk hsz hav hl
  subst hsz
  have hx := S.1
  have hb := S.2.1
  have hown := S.2.2.2.1
  have hts := S.2.2.2.2
  have hl : lv_has ls 1 [(0, .ref (ad 28))] := hl
  have f16 := hts (.fieldLink RX4 16 "PumiceSledgeModel" "gusts" "[I") (by decide +kernel)
  have hi4 : ∀ w ∈ wsX40, w ∈ wsX4_gust := by decide +kernel
  have f25 := hts (.fieldLink RX4 25 "PumiceSledgeModel" "numbers" "[I") (by decide +kernel)
  refine lv_aload_n hx hb dX4_gust_0 rfl (lv_at hl 0 rfl) ?_
  refine z_get (C := RX4) (T := TX4) (N := 9) (ci := 4) S hE hW hi4 rfl (Nat.lt_of_lt_of_le (by decide) hn) cM_0 5 (by decide) rfl f16 (v := .ref (ad 31)) rfl dX4_gust_1 ?_
  refine lv_aload_n hx hb dX4_gust_4 rfl (lv_at hl 0 rfl) ?_
  refine z_get (C := RX4) (T := TX4) (N := 9) (ci := 4) S hE hW hi4 rfl (Nat.lt_of_lt_of_le (by decide) hn) cM_0 8 (by decide) rfl f25 (v := .ref (ad 34)) rfl dX4_gust_5 ?_
  refine lv_iconst (v := 0) hx hb dX4_gust_8 (by decide) ?_
  refine z_ald S hE hW (Nat.lt_of_lt_of_le (by decide) hn) cM_6 0 rfl (by decide) (by decide) (v := nI h) ((r_m0).trans (hh)) dX4_gust_9 ?_
  refine lv_bipush (v := 8) hx hb dX4_gust_10 (by decide) ?_
  refine lv_irem hx hb dX4_gust_12 (by decide) ?_
  refine z_ald S hE hW (Nat.lt_of_lt_of_le (by decide) hn) cM_3 (h % 8) (pk_rem (d := 8) hh3 (by decide) (by decide)) (Nat.mod_lt _ (by decide)) (by decide) (v := al 3 (h % 8)) (r_gu) dX4_gust_13 ?_
  exact ze_i S hW hr hlk () rfl rfl (Nat.le_of_ble_eq_true rfl) (Nat.le_of_ble_eq_true rfl) dX4_gust_14
set_option maxHeartbeats 4000000 in
set_option maxRecDepth 100000 in
theorem cX4_slide_ok (l : Launch) (D : va_G) (n : Nat) (ad cy sa : Nat → Nat) (sz : Nat) (hn : 35 ≤ n) (al : Nat → Nat → Int32) (th : Int32) (ex : Nat → va_E) (N : Nat) (hN : al 0 4 = nI N) (hN6 : N ≤ 6) (i : Nat) (hi : i < N) (h : Nat) (hh : al 0 8 = nI h) (hh3 : h < 2 ^ 31) : Met l yX4_slide wsX4_slide ({ frames := 1, cells := 0, slots := 0, locals := 60 }) (PW D n ad cy sa sz (cM cy ad (enc al th) ex) [.ref (ad 28), .int (nI i)]) (QDv D n ad sz (cM cy ad (enc (slideS al i 0 (al 3 (h % 8))) th) ex)) 0 0 (Acc n ad sz) := by
  refine zs_met (cc := cX4_slide) (maxL := 2) (ret := none) (own := RX4) (by decide) rfl rfl (Nat.le_of_ble_eq_true rfl) ?_
  intro p e s m args below meth c ls S hE hW hr hlk hsz hav hl
  subst hsz
  have hx := S.1
  have hb := S.2.1
  have hown := S.2.2.2.1
  have hts := S.2.2.2.2
  have hl : lv_has ls 2 [(0, .ref (ad 28)), (1, .int (nI i))] := hl
  have l109 := hts (.methodLink RX4 109 Lib.Math.max.name) (by decide +kernel)
  have ls_max := hts (.static Lib.Math.max.name) (by decide +kernel)
  have li_Math := hts (.initialized "java/lang/Math") (by decide +kernel)
  have lc_max := hts (.code Lib.Math.max.name Lib.Math.max.code 2 (some .int)) (by decide +kernel)
  have f25 := hts (.fieldLink RX4 25 "PumiceSledgeModel" "numbers" "[I") (by decide +kernel)
  have hi4 : ∀ w ∈ wsX40, w ∈ wsX4_slide := by decide +kernel
  refine lv_aload_n hx hb dX4_slide_0 rfl (lv_at hl 0 rfl) ?_
  refine lv_iload_n hx hb dX4_slide_1 rfl (lv_at hl 1 rfl) ?_
  refine lv_iconst (v := 1) hx hb dX4_slide_2 (by decide) ?_
  refine z_cVi (As := [.int (nI i), .int 1]) (rest := []) (k := 28) S hE hW (cX4_sl_ok l D n ad cy sa s.heap.size hn (enc al th) ex i (by omega) 1 (by omega)) (cwV 2 hts gX4_slide_X4_sl rfl rfl rfl (by decide +kernel) ⟨Nat.le_of_ble_eq_true rfl, Nat.le_of_ble_eq_true rfl⟩) (Nat.lt_of_lt_of_le (by decide) hn) cM_0 rfl rfl rfl hl.1 rfl (Nat.le_of_ble_eq_true rfl) dX4_slide_3 ⟨Nat.le_of_ble_eq_true rfl, Nat.le_of_ble_eq_true rfl⟩ (fun r _ H locs hp hW => ?_)
  subst hp
  refine z_top2 (y := al (10 + i) 2) (r_s1 (by omega)) ?_
  refine lv_if_le (tgt := 50) hx hb dX4_slide_6 (by decide) (fun c6 => ?_) (fun c6 => ?_)
  · refine lv_aload_n hx hb dX4_slide_50 rfl (lv_at hl 0 rfl) ?_
    refine lv_iload_n hx hb dX4_slide_51 rfl (lv_at hl 1 rfl) ?_
    refine lv_iconst (v := 2) hx hb dX4_slide_52 (by decide) ?_
    refine lv_iconst (v := 0) hx hb dX4_slide_53 (by decide) ?_
    refine lv_aload_n hx hb dX4_slide_54 rfl (lv_at hl 0 rfl) ?_
    refine lv_iload_n hx hb dX4_slide_55 rfl (lv_at hl 1 rfl) ?_
    refine lv_iconst (v := 2) hx hb dX4_slide_56 (by decide) ?_
    refine z_cVi (As := [.int (nI i), .int 2]) (rest := [.int 0, .int 2, .int (nI i), .ref (ad 28)]) (k := 28) S hE hW (cX4_sl_ok l D n ad cy sa H.size hn (enc al th) ex i (by omega) 2 (by omega)) (cwV 2 hts gX4_slide_X4_sl rfl rfl rfl (by decide +kernel) ⟨Nat.le_of_ble_eq_true rfl, Nat.le_of_ble_eq_true rfl⟩) (Nat.lt_of_lt_of_le (by decide) hn) cM_0 rfl rfl rfl hl.1 rfl (Nat.le_of_ble_eq_true rfl) dX4_slide_57 ⟨Nat.le_of_ble_eq_true rfl, Nat.le_of_ble_eq_true rfl⟩ (fun r _ H locs hp hW => ?_)
    subst hp
    refine z_top2 (y := al (10 + i) 3) (r_s2 (by omega) (z_inN (hN) (by omega) (by omega))) ?_
    refine lv_iconst (v := 4) hx hb dX4_slide_60 (by decide) ?_
    refine lv_aload_n hx hb dX4_slide_61 rfl (lv_at hl 0 rfl) ?_
    refine lv_iload_n hx hb dX4_slide_62 rfl (lv_at hl 1 rfl) ?_
    refine lv_iconst (v := 1) hx hb dX4_slide_63 (by decide) ?_
    refine z_cVi (As := [.int (nI i), .int 1]) (rest := [.int 4, .int (al (10 + i) 3), .int 0, .int 2, .int (nI i), .ref (ad 28)]) (k := 28) S hE hW (cX4_sl_ok l D n ad cy sa H.size hn (enc al th) ex i (by omega) 1 (by omega)) (cwV 2 hts gX4_slide_X4_sl rfl rfl rfl (by decide +kernel) ⟨Nat.le_of_ble_eq_true rfl, Nat.le_of_ble_eq_true rfl⟩) (Nat.lt_of_lt_of_le (by decide) hn) cM_0 rfl rfl rfl hl.1 rfl (Nat.le_of_ble_eq_true rfl) dX4_slide_64 ⟨Nat.le_of_ble_eq_true rfl, Nat.le_of_ble_eq_true rfl⟩ (fun r _ H locs hp hW => ?_)
    subst hp
    refine z_top2 (y := al (10 + i) 2) (r_s1 (by omega)) ?_
    refine lv_iconst (v := 3) hx hb dX4_slide_67 (by decide) ?_
    refine lv_idiv hx hb dX4_slide_68 (by decide) ?_
    refine lv_isub hx hb dX4_slide_69 ?_
    refine lv_aload_n hx hb dX4_slide_70 rfl (lv_at hl 0 rfl) ?_
    refine z_cVi (As := []) (rest := [.int (4 - (al (10 + i) 2 / 3)), .int (al (10 + i) 3), .int 0, .int 2, .int (nI i), .ref (ad 28)]) (k := 28) S hE hW (cX4_gust_ok l D n ad cy sa H.size hn al th ex h (hh) (by omega)) (cwV 0 hts gX4_slide_X4_gust rfl rfl rfl (by decide +kernel) ⟨Nat.le_of_ble_eq_true rfl, Nat.le_of_ble_eq_true rfl⟩) (Nat.lt_of_lt_of_le (by decide) hn) cM_0 rfl rfl rfl hl.1 rfl (Nat.le_of_ble_eq_true rfl) dX4_slide_71 ⟨Nat.le_of_ble_eq_true rfl, Nat.le_of_ble_eq_true rfl⟩ (fun r _ H locs hp hW => ?_)
    subst hp
    refine lv_iconst (v := 2) hx hb dX4_slide_74 (by decide) ?_
    refine lv_idiv hx hb dX4_slide_75 (by decide) ?_
    refine lv_iadd hx hb dX4_slide_76 ?_
    refine lv_isub hx hb dX4_slide_77 ?_
    refine z_mmax S hl.1 l109 ls_max li_Math lc_max ⟨Nat.le_of_ble_eq_true rfl, Nat.le_of_ble_eq_true rfl, Nat.le_of_ble_eq_true rfl, Nat.le_of_ble_eq_true rfl⟩ dX4_slide_78 (v := zmx 0 (al (10 + i) 3 - ((4 - (al (10 + i) 2 / 3)) + (al 3 (h % 8) / 2)))) rfl ?_
    refine z_cVv (As := [.int (nI i), .int 2, .int (zmx 0 (al (10 + i) 3 - ((4 - (al (10 + i) 2 / 3)) + (al 3 (h % 8) / 2))))]) (rest := []) (k := 28) S hE hW (cX4_put_ok l D n ad cy sa H.size hn (enc al th) ex i (by omega) 2 (by omega) (zmx 0 (al (10 + i) 3 - ((4 - (al (10 + i) 2 / 3)) + (al 3 (h % 8) / 2))))) (cwV 3 hts gX4_slide_X4_put rfl rfl rfl (by decide +kernel) ⟨Nat.le_of_ble_eq_true rfl, Nat.le_of_ble_eq_true rfl⟩) (Nat.lt_of_lt_of_le (by decide) hn) cM_0 rfl rfl rfl hl.1 rfl (Nat.le_of_ble_eq_true rfl) dX4_slide_81 ⟨Nat.le_of_ble_eq_true rfl, Nat.le_of_ble_eq_true rfl⟩ (fun _ H locs _ hW => ?_)
    rw [e_s2 (by omega) (z_inN (hN) (by omega) (by omega))] at hW
    exact ze_v S hW hr hlk () (congrArg (fun z => cM cy ad z ex) (congrArg (fun z => enc z th) (by unfold slideS; rw [if_neg (fun h => h.1 c6)]))) trivial (Nat.le_of_ble_eq_true rfl) (Nat.le_of_ble_eq_true rfl) dX4_slide_84
  · refine lv_aload_n hx hb dX4_slide_9 rfl (lv_at hl 0 rfl) ?_
    refine z_cVi (As := []) (rest := []) (k := 28) S hE hW (cX4_gust_ok l D n ad cy sa H.size hn al th ex h (hh) (by omega)) (cwV 0 hts gX4_slide_X4_gust rfl rfl rfl (by decide +kernel) ⟨Nat.le_of_ble_eq_true rfl, Nat.le_of_ble_eq_true rfl⟩) (Nat.lt_of_lt_of_le (by decide) hn) cM_0 rfl rfl rfl hl.1 rfl (Nat.le_of_ble_eq_true rfl) dX4_slide_10 ⟨Nat.le_of_ble_eq_true rfl, Nat.le_of_ble_eq_true rfl⟩ (fun r _ H locs hp hW => ?_)
    subst hp
    refine lv_iconst (v := 4) hx hb dX4_slide_13 (by decide) ?_
    refine lv_iconst (v := 2) hx hb dX4_slide_14 (by decide) ?_
    refine lv_aload_n hx hb dX4_slide_15 rfl (lv_at hl 0 rfl) ?_
    refine lv_iload_n hx hb dX4_slide_16 rfl (lv_at hl 1 rfl) ?_
    refine lv_iconst (v := 1) hx hb dX4_slide_17 (by decide) ?_
    refine z_cVi (As := [.int (nI i), .int 1]) (rest := [.int 2, .int 4, .int (al 3 (h % 8))]) (k := 28) S hE hW (cX4_sl_ok l D n ad cy sa H.size hn (enc al th) ex i (by omega) 1 (by omega)) (cwV 2 hts gX4_slide_X4_sl rfl rfl rfl (by decide +kernel) ⟨Nat.le_of_ble_eq_true rfl, Nat.le_of_ble_eq_true rfl⟩) (Nat.lt_of_lt_of_le (by decide) hn) cM_0 rfl rfl rfl hl.1 rfl (Nat.le_of_ble_eq_true rfl) dX4_slide_18 ⟨Nat.le_of_ble_eq_true rfl, Nat.le_of_ble_eq_true rfl⟩ (fun r _ H locs hp hW => ?_)
    subst hp
    refine z_top2 (y := al (10 + i) 2) (r_s1 (by omega)) ?_
    refine lv_imul hx hb dX4_slide_21 ?_
    refine lv_iadd hx hb dX4_slide_22 ?_
    refine lv_icmp_le (tgt := 50) hx hb dX4_slide_23 (by decide) (fun c23 => ?_) (fun c23 => ?_)
    · refine lv_aload_n hx hb dX4_slide_50 rfl (lv_at hl 0 rfl) ?_
      refine lv_iload_n hx hb dX4_slide_51 rfl (lv_at hl 1 rfl) ?_
      refine lv_iconst (v := 2) hx hb dX4_slide_52 (by decide) ?_
      refine lv_iconst (v := 0) hx hb dX4_slide_53 (by decide) ?_
      refine lv_aload_n hx hb dX4_slide_54 rfl (lv_at hl 0 rfl) ?_
      refine lv_iload_n hx hb dX4_slide_55 rfl (lv_at hl 1 rfl) ?_
      refine lv_iconst (v := 2) hx hb dX4_slide_56 (by decide) ?_
      refine z_cVi (As := [.int (nI i), .int 2]) (rest := [.int 0, .int 2, .int (nI i), .ref (ad 28)]) (k := 28) S hE hW (cX4_sl_ok l D n ad cy sa H.size hn (enc al th) ex i (by omega) 2 (by omega)) (cwV 2 hts gX4_slide_X4_sl rfl rfl rfl (by decide +kernel) ⟨Nat.le_of_ble_eq_true rfl, Nat.le_of_ble_eq_true rfl⟩) (Nat.lt_of_lt_of_le (by decide) hn) cM_0 rfl rfl rfl hl.1 rfl (Nat.le_of_ble_eq_true rfl) dX4_slide_57 ⟨Nat.le_of_ble_eq_true rfl, Nat.le_of_ble_eq_true rfl⟩ (fun r _ H locs hp hW => ?_)
      subst hp
      refine z_top2 (y := al (10 + i) 3) (r_s2 (by omega) (z_inN (hN) (by omega) (by omega))) ?_
      refine lv_iconst (v := 4) hx hb dX4_slide_60 (by decide) ?_
      refine lv_aload_n hx hb dX4_slide_61 rfl (lv_at hl 0 rfl) ?_
      refine lv_iload_n hx hb dX4_slide_62 rfl (lv_at hl 1 rfl) ?_
      refine lv_iconst (v := 1) hx hb dX4_slide_63 (by decide) ?_
      refine z_cVi (As := [.int (nI i), .int 1]) (rest := [.int 4, .int (al (10 + i) 3), .int 0, .int 2, .int (nI i), .ref (ad 28)]) (k := 28) S hE hW (cX4_sl_ok l D n ad cy sa H.size hn (enc al th) ex i (by omega) 1 (by omega)) (cwV 2 hts gX4_slide_X4_sl rfl rfl rfl (by decide +kernel) ⟨Nat.le_of_ble_eq_true rfl, Nat.le_of_ble_eq_true rfl⟩) (Nat.lt_of_lt_of_le (by decide) hn) cM_0 rfl rfl rfl hl.1 rfl (Nat.le_of_ble_eq_true rfl) dX4_slide_64 ⟨Nat.le_of_ble_eq_true rfl, Nat.le_of_ble_eq_true rfl⟩ (fun r _ H locs hp hW => ?_)
      subst hp
      refine z_top2 (y := al (10 + i) 2) (r_s1 (by omega)) ?_
      refine lv_iconst (v := 3) hx hb dX4_slide_67 (by decide) ?_
      refine lv_idiv hx hb dX4_slide_68 (by decide) ?_
      refine lv_isub hx hb dX4_slide_69 ?_
      refine lv_aload_n hx hb dX4_slide_70 rfl (lv_at hl 0 rfl) ?_
      refine z_cVi (As := []) (rest := [.int (4 - (al (10 + i) 2 / 3)), .int (al (10 + i) 3), .int 0, .int 2, .int (nI i), .ref (ad 28)]) (k := 28) S hE hW (cX4_gust_ok l D n ad cy sa H.size hn al th ex h (hh) (by omega)) (cwV 0 hts gX4_slide_X4_gust rfl rfl rfl (by decide +kernel) ⟨Nat.le_of_ble_eq_true rfl, Nat.le_of_ble_eq_true rfl⟩) (Nat.lt_of_lt_of_le (by decide) hn) cM_0 rfl rfl rfl hl.1 rfl (Nat.le_of_ble_eq_true rfl) dX4_slide_71 ⟨Nat.le_of_ble_eq_true rfl, Nat.le_of_ble_eq_true rfl⟩ (fun r _ H locs hp hW => ?_)
      subst hp
      refine lv_iconst (v := 2) hx hb dX4_slide_74 (by decide) ?_
      refine lv_idiv hx hb dX4_slide_75 (by decide) ?_
      refine lv_iadd hx hb dX4_slide_76 ?_
      refine lv_isub hx hb dX4_slide_77 ?_
      refine z_mmax S hl.1 l109 ls_max li_Math lc_max ⟨Nat.le_of_ble_eq_true rfl, Nat.le_of_ble_eq_true rfl, Nat.le_of_ble_eq_true rfl, Nat.le_of_ble_eq_true rfl⟩ dX4_slide_78 (v := zmx 0 (al (10 + i) 3 - ((4 - (al (10 + i) 2 / 3)) + (al 3 (h % 8) / 2)))) rfl ?_
      refine z_cVv (As := [.int (nI i), .int 2, .int (zmx 0 (al (10 + i) 3 - ((4 - (al (10 + i) 2 / 3)) + (al 3 (h % 8) / 2))))]) (rest := []) (k := 28) S hE hW (cX4_put_ok l D n ad cy sa H.size hn (enc al th) ex i (by omega) 2 (by omega) (zmx 0 (al (10 + i) 3 - ((4 - (al (10 + i) 2 / 3)) + (al 3 (h % 8) / 2))))) (cwV 3 hts gX4_slide_X4_put rfl rfl rfl (by decide +kernel) ⟨Nat.le_of_ble_eq_true rfl, Nat.le_of_ble_eq_true rfl⟩) (Nat.lt_of_lt_of_le (by decide) hn) cM_0 rfl rfl rfl hl.1 rfl (Nat.le_of_ble_eq_true rfl) dX4_slide_81 ⟨Nat.le_of_ble_eq_true rfl, Nat.le_of_ble_eq_true rfl⟩ (fun _ H locs _ hW => ?_)
      rw [e_s2 (by omega) (z_inN (hN) (by omega) (by omega))] at hW
      exact ze_v S hW hr hlk () (congrArg (fun z => cM cy ad z ex) (congrArg (fun z => enc z th) (by unfold slideS; rw [if_neg (fun h => h.2 c23)]))) trivial (Nat.le_of_ble_eq_true rfl) (Nat.le_of_ble_eq_true rfl) dX4_slide_84
    · refine lv_aload_n hx hb dX4_slide_26 rfl (lv_at hl 0 rfl) ?_
      refine lv_iload_n hx hb dX4_slide_27 rfl (lv_at hl 1 rfl) ?_
      refine lv_iconst (v := 1) hx hb dX4_slide_28 (by decide) ?_
      refine lv_aload_n hx hb dX4_slide_29 rfl (lv_at hl 0 rfl) ?_
      refine lv_iload_n hx hb dX4_slide_30 rfl (lv_at hl 1 rfl) ?_
      refine lv_iconst (v := 1) hx hb dX4_slide_31 (by decide) ?_
      refine z_cVi (As := [.int (nI i), .int 1]) (rest := [.int 1, .int (nI i), .ref (ad 28)]) (k := 28) S hE hW (cX4_sl_ok l D n ad cy sa H.size hn (enc al th) ex i (by omega) 1 (by omega)) (cwV 2 hts gX4_slide_X4_sl rfl rfl rfl (by decide +kernel) ⟨Nat.le_of_ble_eq_true rfl, Nat.le_of_ble_eq_true rfl⟩) (Nat.lt_of_lt_of_le (by decide) hn) cM_0 rfl rfl rfl hl.1 rfl (Nat.le_of_ble_eq_true rfl) dX4_slide_32 ⟨Nat.le_of_ble_eq_true rfl, Nat.le_of_ble_eq_true rfl⟩ (fun r _ H locs hp hW => ?_)
      subst hp
      refine z_top2 (y := al (10 + i) 2) (r_s1 (by omega)) ?_
      refine lv_iconst (v := 1) hx hb dX4_slide_35 (by decide) ?_
      refine lv_isub hx hb dX4_slide_36 ?_
      refine z_cVv (As := [.int (nI i), .int 1, .int (al (10 + i) 2 - 1)]) (rest := []) (k := 28) S hE hW (cX4_put_ok l D n ad cy sa H.size hn (enc al th) ex i (by omega) 1 (by omega) (al (10 + i) 2 - 1)) (cwV 3 hts gX4_slide_X4_put rfl rfl rfl (by decide +kernel) ⟨Nat.le_of_ble_eq_true rfl, Nat.le_of_ble_eq_true rfl⟩) (Nat.lt_of_lt_of_le (by decide) hn) cM_0 rfl rfl rfl hl.1 rfl (Nat.le_of_ble_eq_true rfl) dX4_slide_37 ⟨Nat.le_of_ble_eq_true rfl, Nat.le_of_ble_eq_true rfl⟩ (fun _ H locs _ hW => ?_)
      rw [e_s1 (by omega)] at hW
      refine lv_aload_n hx hb dX4_slide_40 rfl (lv_at hl 0 rfl) ?_
      refine z_get (C := RX4) (T := TX4) (N := 9) (ci := 4) S hE hW hi4 rfl (Nat.lt_of_lt_of_le (by decide) hn) cM_0 8 (by decide) rfl f25 (v := .ref (ad 34)) rfl dX4_slide_41 ?_
      refine lv_iconst (v := 2) hx hb dX4_slide_44 (by decide) ?_
      refine lv_dup2_11 hx hb dX4_slide_45 rfl rfl ?_
      refine z_ald S hE hW (Nat.lt_of_lt_of_le (by decide) hn) cM_6 2 rfl (by decide) (by decide) (v := al (6 + 0) 1) ((r_m2).trans (congrFun (zup_o (by omega)) 1)) dX4_slide_46 ?_
      refine lv_iconst (v := 1) hx hb dX4_slide_47 (by decide) ?_
      refine lv_iadd hx hb dX4_slide_48 ?_
      refine z_ast (ce' := cM cy ad (zup (enc (zup al (10 + i) 2 (al (10 + i) 2 - 1)) th) 6 2 (al (6 + 0) 1 + 1)) ex) S hE hW (Nat.lt_of_lt_of_le (by decide) hn) cM_6 2 rfl (by decide) (by decide) pM_6 (fun j h => cM_o h) dX4_slide_49 (fun H locs hW => ?_)
      rw [e_m2] at hW
      refine lv_aload_n hx hb dX4_slide_50 rfl (lv_at hl 0 rfl) ?_
      refine lv_iload_n hx hb dX4_slide_51 rfl (lv_at hl 1 rfl) ?_
      refine lv_iconst (v := 2) hx hb dX4_slide_52 (by decide) ?_
      refine lv_iconst (v := 0) hx hb dX4_slide_53 (by decide) ?_
      refine lv_aload_n hx hb dX4_slide_54 rfl (lv_at hl 0 rfl) ?_
      refine lv_iload_n hx hb dX4_slide_55 rfl (lv_at hl 1 rfl) ?_
      refine lv_iconst (v := 2) hx hb dX4_slide_56 (by decide) ?_
      refine z_cVi (As := [.int (nI i), .int 2]) (rest := [.int 0, .int 2, .int (nI i), .ref (ad 28)]) (k := 28) S hE hW (cX4_sl_ok l D n ad cy sa H.size hn (enc (zup (zup al (10 + i) 2 (al (10 + i) 2 - 1)) (6 + 0) 1 (al (6 + 0) 1 + 1)) th) ex i (by omega) 2 (by omega)) (cwV 2 hts gX4_slide_X4_sl rfl rfl rfl (by decide +kernel) ⟨Nat.le_of_ble_eq_true rfl, Nat.le_of_ble_eq_true rfl⟩) (Nat.lt_of_lt_of_le (by decide) hn) cM_0 rfl rfl rfl hl.1 rfl (Nat.le_of_ble_eq_true rfl) dX4_slide_57 ⟨Nat.le_of_ble_eq_true rfl, Nat.le_of_ble_eq_true rfl⟩ (fun r _ H locs hp hW => ?_)
      subst hp
      refine z_top2 (y := al (10 + i) 3) ((r_s2 (by omega) (z_inN (((congrFun (zup_o (by omega)) 4).trans (congrFun (zup_o (by omega)) 4)).trans hN) (by omega) (by omega))).trans ((congrFun (zup_o (by omega)) 3).trans ((congrFun zup_k 3).trans (up_n (by decide))))) ?_
      refine lv_iconst (v := 4) hx hb dX4_slide_60 (by decide) ?_
      refine lv_aload_n hx hb dX4_slide_61 rfl (lv_at hl 0 rfl) ?_
      refine lv_iload_n hx hb dX4_slide_62 rfl (lv_at hl 1 rfl) ?_
      refine lv_iconst (v := 1) hx hb dX4_slide_63 (by decide) ?_
      refine z_cVi (As := [.int (nI i), .int 1]) (rest := [.int 4, .int (al (10 + i) 3), .int 0, .int 2, .int (nI i), .ref (ad 28)]) (k := 28) S hE hW (cX4_sl_ok l D n ad cy sa H.size hn (enc (zup (zup al (10 + i) 2 (al (10 + i) 2 - 1)) (6 + 0) 1 (al (6 + 0) 1 + 1)) th) ex i (by omega) 1 (by omega)) (cwV 2 hts gX4_slide_X4_sl rfl rfl rfl (by decide +kernel) ⟨Nat.le_of_ble_eq_true rfl, Nat.le_of_ble_eq_true rfl⟩) (Nat.lt_of_lt_of_le (by decide) hn) cM_0 rfl rfl rfl hl.1 rfl (Nat.le_of_ble_eq_true rfl) dX4_slide_64 ⟨Nat.le_of_ble_eq_true rfl, Nat.le_of_ble_eq_true rfl⟩ (fun r _ H locs hp hW => ?_)
      subst hp
      refine z_top2 (y := (al (10 + i) 2 - 1)) ((r_s1 (by omega)).trans ((congrFun (zup_o (by omega)) 2).trans ((congrFun zup_k 2).trans up_s))) ?_
      refine lv_iconst (v := 3) hx hb dX4_slide_67 (by decide) ?_
      refine lv_idiv hx hb dX4_slide_68 (by decide) ?_
      refine lv_isub hx hb dX4_slide_69 ?_
      refine lv_aload_n hx hb dX4_slide_70 rfl (lv_at hl 0 rfl) ?_
      refine z_cVi (As := []) (rest := [.int (4 - ((al (10 + i) 2 - 1) / 3)), .int (al (10 + i) 3), .int 0, .int 2, .int (nI i), .ref (ad 28)]) (k := 28) S hE hW (cX4_gust_ok l D n ad cy sa H.size hn (zup (zup al (10 + i) 2 (al (10 + i) 2 - 1)) (6 + 0) 1 (al (6 + 0) 1 + 1)) th ex h (((congrFun (zup_o (by omega)) 8).trans (congrFun (zup_o (by omega)) 8)).trans hh) (by omega)) (cwV 0 hts gX4_slide_X4_gust rfl rfl rfl (by decide +kernel) ⟨Nat.le_of_ble_eq_true rfl, Nat.le_of_ble_eq_true rfl⟩) (Nat.lt_of_lt_of_le (by decide) hn) cM_0 rfl rfl rfl hl.1 rfl (Nat.le_of_ble_eq_true rfl) dX4_slide_71 ⟨Nat.le_of_ble_eq_true rfl, Nat.le_of_ble_eq_true rfl⟩ (fun r _ H locs hp hW => ?_)
      subst hp
      refine z_top2 (y := al 3 (h % 8)) ((congrFun (zup_o (by omega)) (h % 8)).trans (congrFun (zup_o (by omega)) (h % 8))) ?_
      refine lv_iconst (v := 2) hx hb dX4_slide_74 (by decide) ?_
      refine lv_idiv hx hb dX4_slide_75 (by decide) ?_
      refine lv_iadd hx hb dX4_slide_76 ?_
      refine lv_isub hx hb dX4_slide_77 ?_
      refine z_mmax S hl.1 l109 ls_max li_Math lc_max ⟨Nat.le_of_ble_eq_true rfl, Nat.le_of_ble_eq_true rfl, Nat.le_of_ble_eq_true rfl, Nat.le_of_ble_eq_true rfl⟩ dX4_slide_78 (v := zmx 0 (al (10 + i) 3 - ((4 - ((al (10 + i) 2 - 1) / 3)) + (al 3 (h % 8) / 2)))) rfl ?_
      refine z_cVv (As := [.int (nI i), .int 2, .int (zmx 0 (al (10 + i) 3 - ((4 - ((al (10 + i) 2 - 1) / 3)) + (al 3 (h % 8) / 2))))]) (rest := []) (k := 28) S hE hW (cX4_put_ok l D n ad cy sa H.size hn (enc (zup (zup al (10 + i) 2 (al (10 + i) 2 - 1)) (6 + 0) 1 (al (6 + 0) 1 + 1)) th) ex i (by omega) 2 (by omega) (zmx 0 (al (10 + i) 3 - ((4 - ((al (10 + i) 2 - 1) / 3)) + (al 3 (h % 8) / 2))))) (cwV 3 hts gX4_slide_X4_put rfl rfl rfl (by decide +kernel) ⟨Nat.le_of_ble_eq_true rfl, Nat.le_of_ble_eq_true rfl⟩) (Nat.lt_of_lt_of_le (by decide) hn) cM_0 rfl rfl rfl hl.1 rfl (Nat.le_of_ble_eq_true rfl) dX4_slide_81 ⟨Nat.le_of_ble_eq_true rfl, Nat.le_of_ble_eq_true rfl⟩ (fun _ H locs _ hW => ?_)
      rw [e_s2 (by omega) (z_inN (((congrFun (zup_o (by omega)) 4).trans (congrFun (zup_o (by omega)) 4)).trans hN) (by omega) (by omega))] at hW
      exact ze_v S hW hr hlk () (congrArg (fun z => cM cy ad z ex) (congrArg (fun z => enc z th) (by unfold slideS; rw [if_pos ⟨c6, c23⟩]))) trivial (Nat.le_of_ble_eq_true rfl) (Nat.le_of_ble_eq_true rfl) dX4_slide_84
set_option maxHeartbeats 4000000 in
set_option maxRecDepth 100000 in
theorem cX4_climb_ok (l : Launch) (D : va_G) (n : Nat) (ad cy sa : Nat → Nat) (sz : Nat) (hn : 35 ≤ n) (al : Nat → Nat → Int32) (th : Int32) (ex : Nat → va_E) (N : Nat) (hN : al 0 4 = nI N) (hN6 : N ≤ 6) (i : Nat) (hi : i < N) : Met l yX4_climb wsX4_climb ({ frames := 1, cells := 0, slots := 0, locals := 60 }) (PW D n ad cy sa sz (cM cy ad (enc al th) ex) [.ref (ad 28), .int (nI i)]) (QDv D n ad sz (cM cy ad (enc (climbS al i) th) ex)) 0 0 (Acc n ad sz) := by
  refine zs_met (cc := cX4_climb) (maxL := 2) (ret := none) (own := RX4) (by decide) rfl rfl (Nat.le_of_ble_eq_true rfl) ?_
  intro p e s m args below meth c ls S hE hW hr hlk hsz hav hl
  subst hsz
  have hx := S.1
  have hb := S.2.1
  have hown := S.2.2.2.1
  have hts := S.2.2.2.2
  have hl : lv_has ls 2 [(0, .ref (ad 28)), (1, .int (nI i))] := hl
  have l112 := hts (.methodLink RX4 112 Lib.Math.min.name) (by decide +kernel)
  have ls_min := hts (.static Lib.Math.min.name) (by decide +kernel)
  have li_Math := hts (.initialized "java/lang/Math") (by decide +kernel)
  have lc_min := hts (.code Lib.Math.min.name Lib.Math.min.code 2 (some .int)) (by decide +kernel)
  refine lv_aload_n hx hb dX4_climb_0 rfl (lv_at hl 0 rfl) ?_
  refine lv_iload_n hx hb dX4_climb_1 rfl (lv_at hl 1 rfl) ?_
  refine lv_iconst (v := 2) hx hb dX4_climb_2 (by decide) ?_
  refine lv_bipush (v := 20) hx hb dX4_climb_3 (by decide) ?_
  refine lv_aload_n hx hb dX4_climb_5 rfl (lv_at hl 0 rfl) ?_
  refine lv_iload_n hx hb dX4_climb_6 rfl (lv_at hl 1 rfl) ?_
  refine lv_iconst (v := 2) hx hb dX4_climb_7 (by decide) ?_
  refine z_cVi (As := [.int (nI i), .int 2]) (rest := [.int 20, .int 2, .int (nI i), .ref (ad 28)]) (k := 28) S hE hW (cX4_sl_ok l D n ad cy sa s.heap.size hn (enc al th) ex i (by omega) 2 (by omega)) (cwV 2 hts gX4_climb_X4_sl rfl rfl rfl (by decide +kernel) ⟨Nat.le_of_ble_eq_true rfl, Nat.le_of_ble_eq_true rfl⟩) (Nat.lt_of_lt_of_le (by decide) hn) cM_0 rfl rfl rfl hl.1 rfl (Nat.le_of_ble_eq_true rfl) dX4_climb_8 ⟨Nat.le_of_ble_eq_true rfl, Nat.le_of_ble_eq_true rfl⟩ (fun r _ H locs hp hW => ?_)
  subst hp
  refine z_top2 (y := al (10 + i) 3) (r_s2 (by omega) (z_inN (hN) (by omega) (by omega))) ?_
  refine lv_iconst (v := 5) hx hb dX4_climb_11 (by decide) ?_
  refine lv_iadd hx hb dX4_climb_12 ?_
  refine z_mmin S hl.1 l112 ls_min li_Math lc_min ⟨Nat.le_of_ble_eq_true rfl, Nat.le_of_ble_eq_true rfl, Nat.le_of_ble_eq_true rfl, Nat.le_of_ble_eq_true rfl⟩ dX4_climb_13 (v := zmn 20 (al (10 + i) 3 + 5)) rfl ?_
  refine z_cVv (As := [.int (nI i), .int 2, .int (zmn 20 (al (10 + i) 3 + 5))]) (rest := []) (k := 28) S hE hW (cX4_put_ok l D n ad cy sa H.size hn (enc al th) ex i (by omega) 2 (by omega) (zmn 20 (al (10 + i) 3 + 5))) (cwV 3 hts gX4_climb_X4_put rfl rfl rfl (by decide +kernel) ⟨Nat.le_of_ble_eq_true rfl, Nat.le_of_ble_eq_true rfl⟩) (Nat.lt_of_lt_of_le (by decide) hn) cM_0 rfl rfl rfl hl.1 rfl (Nat.le_of_ble_eq_true rfl) dX4_climb_16 ⟨Nat.le_of_ble_eq_true rfl, Nat.le_of_ble_eq_true rfl⟩ (fun _ H locs _ hW => ?_)
  rw [e_s2 (by omega) (z_inN (hN) (by omega) (by omega))] at hW
  refine lv_aload_n hx hb dX4_climb_19 rfl (lv_at hl 0 rfl) ?_
  refine lv_iload_n hx hb dX4_climb_20 rfl (lv_at hl 1 rfl) ?_
  refine lv_iconst (v := 2) hx hb dX4_climb_21 (by decide) ?_
  refine z_cVi (As := [.int (nI i), .int 2]) (rest := []) (k := 28) S hE hW (cX4_sl_ok l D n ad cy sa H.size hn (enc (zup al (10 + i) 3 (zmn 20 (al (10 + i) 3 + 5))) th) ex i (by omega) 2 (by omega)) (cwV 2 hts gX4_climb_X4_sl rfl rfl rfl (by decide +kernel) ⟨Nat.le_of_ble_eq_true rfl, Nat.le_of_ble_eq_true rfl⟩) (Nat.lt_of_lt_of_le (by decide) hn) cM_0 rfl rfl rfl hl.1 rfl (Nat.le_of_ble_eq_true rfl) dX4_climb_22 ⟨Nat.le_of_ble_eq_true rfl, Nat.le_of_ble_eq_true rfl⟩ (fun r _ H locs hp hW => ?_)
  subst hp
  refine z_top2 (y := zmn 20 (al (10 + i) 3 + 5)) ((r_s2 (by omega) (z_inN ((congrFun (zup_o (by omega)) 4).trans hN) (by omega) (by omega))).trans ((congrFun zup_k 3).trans up_s)) ?_
  refine lv_bipush (v := 20) hx hb dX4_climb_25 (by decide) ?_
  refine lv_icmp_ne (tgt := 37) hx hb dX4_climb_27 (by decide) (fun c27 => ?_) (fun c27 => ?_)
  · exact ze_v S hW hr hlk () (congrArg (fun z => cM cy ad z ex) (congrArg (fun z => enc z th) (by unfold climbS; rw [if_neg c27]))) trivial (Nat.le_of_ble_eq_true rfl) (Nat.le_of_ble_eq_true rfl) dX4_climb_37
  · refine lv_aload_n hx hb dX4_climb_30 rfl (lv_at hl 0 rfl) ?_
    refine lv_iload_n hx hb dX4_climb_31 rfl (lv_at hl 1 rfl) ?_
    refine lv_iconst (v := 3) hx hb dX4_climb_32 (by decide) ?_
    refine lv_iconst (v := 0) hx hb dX4_climb_33 (by decide) ?_
    refine z_cVv (As := [.int (nI i), .int 3, .int 0]) (rest := []) (k := 28) S hE hW (cX4_put_ok l D n ad cy sa H.size hn (enc (zup al (10 + i) 3 (zmn 20 (al (10 + i) 3 + 5))) th) ex i (by omega) 3 (by omega) 0) (cwV 3 hts gX4_climb_X4_put rfl rfl rfl (by decide +kernel) ⟨Nat.le_of_ble_eq_true rfl, Nat.le_of_ble_eq_true rfl⟩) (Nat.lt_of_lt_of_le (by decide) hn) cM_0 rfl rfl rfl hl.1 rfl (Nat.le_of_ble_eq_true rfl) dX4_climb_34 ⟨Nat.le_of_ble_eq_true rfl, Nat.le_of_ble_eq_true rfl⟩ (fun _ H locs _ hW => ?_)
    rw [e_s3 (by omega)] at hW
    exact ze_v S hW hr hlk () (congrArg (fun z => cM cy ad z ex) (congrArg (fun z => enc z th) (by unfold climbS; rw [if_pos c27]))) trivial (Nat.le_of_ble_eq_true rfl) (Nat.le_of_ble_eq_true rfl) dX4_climb_37
set_option maxHeartbeats 4000000 in
set_option maxRecDepth 100000 in
theorem cX4_unload_ok (l : Launch) (D : va_G) (n : Nat) (ad cy sa : Nat → Nat) (sz : Nat) (hn : 35 ≤ n) (al : Nat → Nat → Int32) (th : Int32) (ex : Nat → va_E) (N : Nat) (hN : al 0 4 = nI N) (hN6 : N ≤ 6) (i : Nat) (hi : i < N) (a : Nat) (ha : al (10 + i) 2 = nI a) (ha8 : a ≤ 8) : Met l yX4_unload wsX4_unload ({ frames := 1, cells := 0, slots := 0, locals := 23 }) (PW D n ad cy sa sz (cM cy ad (enc al th) ex) [.ref (ad 28), .int (nI i)]) (QDv D n ad sz (cM cy ad (enc (zup (unloadS al i 0) (10 + i) 4 2) th) ex)) 0 0 (Acc n ad sz) := by
  refine zs_met (cc := cX4_unload) (maxL := 3) (ret := none) (own := RX4) (by decide) rfl rfl (Nat.le_of_ble_eq_true rfl) ?_
  intro p e s m args below meth c ls S hE hW hr hlk hsz hav hl
  subst hsz
  have hx := S.1
  have hb := S.2.1
  have hown := S.2.2.2.1
  have hts := S.2.2.2.2
  have hl : lv_has ls 3 [(0, .ref (ad 28)), (1, .int (nI i))] := hl
  have f25 := hts (.fieldLink RX4 25 "PumiceSledgeModel" "numbers" "[I") (by decide +kernel)
  have hi4 : ∀ w ∈ wsX40, w ∈ wsX4_unload := by decide +kernel
  refine lv_iconst (v := 0) hx hb dX4_unload_0 (by decide) ?_
  refine lv_istore_n (lv' := [(2, .int 0), (0, .ref (ad 28)), (1, .int (nI i))]) hx hb dX4_unload_1 rfl hl (by decide) rfl (fun ls hl => ?_)
  have L2 : ∀ (kq j : Nat) (H : Heap) (locs : List Loc) (ls : Array Slot), j + kq = a → WS D n ad (cM cy ad (enc (unlS al i 0 j) th) ex) (Acc n ad s.heap.size) s.heap H locs → lv_has ls 3 [(0, .ref (ad 28)), (1, .int (nI i)), (2, .int (nI j))] → W p l e { frames := 1, cells := 0, slots := 0, locals := 23 } s m args below meth c H locs 0 0 (MQ below (QDv D n ad s.heap.size (cM cy ad (enc (zup (unloadS al i 0) (10 + i) 4 2) th) ex)) args s 0 0 (Acc n ad s.heap.size)) (F0 m 2 ls []) := by
    intro kq
    induction kq with
    | zero =>
      intro j H locs ls hjk hW hl
      have hjN : j = a := by omega
      try rw [hjN] at hW
      try rw [hjN] at hl
      refine lv_iload_n hx hb dX4_unload_2 rfl (lv_at hl 2 rfl) ?_
      refine lv_aload_n hx hb dX4_unload_3 rfl (lv_at hl 0 rfl) ?_
      refine lv_iload_n hx hb dX4_unload_4 rfl (lv_at hl 1 rfl) ?_
      refine lv_iconst (v := 1) hx hb dX4_unload_5 (by decide) ?_
      refine z_cVi (As := [.int (nI i), .int 1]) (rest := [.int (nI a)]) (k := 28) S hE hW (cX4_sl_ok l D n ad cy sa H.size hn (enc (unlS al i 0 a) th) ex i (by omega) 1 (by omega)) (cwV 2 hts gX4_unload_X4_sl rfl rfl rfl (by decide +kernel) ⟨Nat.le_of_ble_eq_true rfl, Nat.le_of_ble_eq_true rfl⟩) (Nat.lt_of_lt_of_le (by decide) hn) cM_0 rfl rfl rfl hl.1 rfl (Nat.le_of_ble_eq_true rfl) dX4_unload_6 ⟨Nat.le_of_ble_eq_true rfl, Nat.le_of_ble_eq_true rfl⟩ (fun r _ H locs hp hW => ?_)
      subst hp
      refine z_top2 (y := nI a) ((r_s1 (by omega)).trans ((congrFun (unlS_o (by omega) a) 2).trans ha)) ?_
      refine lv_icmp_ge (tgt := 40) hx hb dX4_unload_9 (by decide) (fun _ => ?_) (fun h => absurd (nI_le (Nat.le_refl a) (by omega)) h)
      refine lv_aload_n hx hb dX4_unload_40 rfl (lv_at hl 0 rfl) ?_
      refine lv_iload_n hx hb dX4_unload_41 rfl (lv_at hl 1 rfl) ?_
      refine lv_iconst (v := 1) hx hb dX4_unload_42 (by decide) ?_
      refine lv_iconst (v := 0) hx hb dX4_unload_43 (by decide) ?_
      refine z_cVv (As := [.int (nI i), .int 1, .int 0]) (rest := []) (k := 28) S hE hW (cX4_put_ok l D n ad cy sa H.size hn (enc (unlS al i 0 a) th) ex i (by omega) 1 (by omega) 0) (cwV 3 hts gX4_unload_X4_put rfl rfl rfl (by decide +kernel) ⟨Nat.le_of_ble_eq_true rfl, Nat.le_of_ble_eq_true rfl⟩) (Nat.lt_of_lt_of_le (by decide) hn) cM_0 rfl rfl rfl hl.1 rfl (Nat.le_of_ble_eq_true rfl) dX4_unload_44 ⟨Nat.le_of_ble_eq_true rfl, Nat.le_of_ble_eq_true rfl⟩ (fun _ H locs _ hW => ?_)
      rw [e_s1 (by omega)] at hW
      refine lv_aload_n hx hb dX4_unload_47 rfl (lv_at hl 0 rfl) ?_
      refine lv_iload_n hx hb dX4_unload_48 rfl (lv_at hl 1 rfl) ?_
      refine lv_iconst (v := 3) hx hb dX4_unload_49 (by decide) ?_
      refine lv_iconst (v := 2) hx hb dX4_unload_50 (by decide) ?_
      refine z_cVv (As := [.int (nI i), .int 3, .int 2]) (rest := []) (k := 28) S hE hW (cX4_put_ok l D n ad cy sa H.size hn (enc (zup (unlS al i 0 a) (10 + i) 2 0) th) ex i (by omega) 3 (by omega) 2) (cwV 3 hts gX4_unload_X4_put rfl rfl rfl (by decide +kernel) ⟨Nat.le_of_ble_eq_true rfl, Nat.le_of_ble_eq_true rfl⟩) (Nat.lt_of_lt_of_le (by decide) hn) cM_0 rfl rfl rfl hl.1 rfl (Nat.le_of_ble_eq_true rfl) dX4_unload_51 ⟨Nat.le_of_ble_eq_true rfl, Nat.le_of_ble_eq_true rfl⟩ (fun _ H locs _ hW => ?_)
      rw [e_s3 (by omega)] at hW
      exact ze_v S hW hr hlk () (congrArg (fun z => cM cy ad z ex) (congrArg (fun z => enc z th) (by unfold unloadS; rw [ha, nI_clamp (show a < 2 ^ 31 by omega)]))) trivial (Nat.le_of_ble_eq_true rfl) (Nat.le_of_ble_eq_true rfl) dX4_unload_54
    | succ kq ih =>
      intro j H locs ls hjk hW hl
      have hj : j < a := by omega
      refine lv_iload_n hx hb dX4_unload_2 rfl (lv_at hl 2 rfl) ?_
      refine lv_aload_n hx hb dX4_unload_3 rfl (lv_at hl 0 rfl) ?_
      refine lv_iload_n hx hb dX4_unload_4 rfl (lv_at hl 1 rfl) ?_
      refine lv_iconst (v := 1) hx hb dX4_unload_5 (by decide) ?_
      refine z_cVi (As := [.int (nI i), .int 1]) (rest := [.int (nI j)]) (k := 28) S hE hW (cX4_sl_ok l D n ad cy sa H.size hn (enc (unlS al i 0 j) th) ex i (by omega) 1 (by omega)) (cwV 2 hts gX4_unload_X4_sl rfl rfl rfl (by decide +kernel) ⟨Nat.le_of_ble_eq_true rfl, Nat.le_of_ble_eq_true rfl⟩) (Nat.lt_of_lt_of_le (by decide) hn) cM_0 rfl rfl rfl hl.1 rfl (Nat.le_of_ble_eq_true rfl) dX4_unload_6 ⟨Nat.le_of_ble_eq_true rfl, Nat.le_of_ble_eq_true rfl⟩ (fun r _ H locs hp hW => ?_)
      subst hp
      refine z_top2 (y := nI a) ((r_s1 (by omega)).trans ((congrFun (unlS_o (by omega) j) 2).trans ha)) ?_
      refine lv_icmp_ge (tgt := 40) hx hb dX4_unload_9 (by decide) (fun h => absurd h (nI_ge hj (by omega))) (fun _ => ?_)
      refine lv_aload_n hx hb dX4_unload_12 rfl (lv_at hl 0 rfl) ?_
      refine z_get (C := RX4) (T := TX4) (N := 9) (ci := 4) S hE hW hi4 rfl (Nat.lt_of_lt_of_le (by decide) hn) cM_0 8 (by decide) rfl f25 (v := .ref (ad 34)) rfl dX4_unload_13 ?_
      refine lv_iconst (v := 3) hx hb dX4_unload_16 (by decide) ?_
      refine lv_aload_n hx hb dX4_unload_17 rfl (lv_at hl 0 rfl) ?_
      refine lv_iload_n hx hb dX4_unload_18 rfl (lv_at hl 1 rfl) ?_
      refine lv_iconst (v := 4) hx hb dX4_unload_19 (by decide) ?_
      refine lv_iload_n hx hb dX4_unload_20 rfl (lv_at hl 2 rfl) ?_
      refine lv_iadd hx hb dX4_unload_21 ?_
      refine z_top2 (y := nI (4 + j)) (nI_add 4 j) ?_
      refine z_cVi (As := [.int (nI i), .int (nI (4 + j))]) (rest := [.int 3, .ref (ad 34)]) (k := 28) S hE hW (cX4_sl_ok l D n ad cy sa H.size hn (enc (unlS al i 0 j) th) ex i (by omega) (4 + j) (by omega)) (cwV 2 hts gX4_unload_X4_sl rfl rfl rfl (by decide +kernel) ⟨Nat.le_of_ble_eq_true rfl, Nat.le_of_ble_eq_true rfl⟩) (Nat.lt_of_lt_of_le (by decide) hn) cM_0 rfl rfl rfl hl.1 rfl (Nat.le_of_ble_eq_true rfl) dX4_unload_22 ⟨Nat.le_of_ble_eq_true rfl, Nat.le_of_ble_eq_true rfl⟩ (fun r _ H locs hp hW => ?_)
      subst hp
      refine z_top2 (y := al (17 + i) j) ((r_sw4 (k := j) (by omega) (by omega)).trans (congrFun (unlS_o (by omega) j) j)) ?_
      refine z_pS (As := [.int (al (17 + i) j)]) (rest := [.int 3, .ref (ad 34)]) S hE hW (cX4_kind_ok l (al (17 + i) j)) (va_cwS 1 hts gX4_unload_X4_kind rfl rfl rfl (by decide +kernel) ⟨Nat.le_of_ble_eq_true rfl, Nat.le_of_ble_eq_true rfl⟩) rfl hl.1 rfl (Nat.le_of_ble_eq_true rfl) dX4_unload_25 ⟨Nat.le_of_ble_eq_true rfl, Nat.le_of_ble_eq_true rfl⟩ (fun H locs hW => ?_)
      refine lv_iadd hx hb dX4_unload_28 ?_
      refine lv_dup2_11 hx hb dX4_unload_29 rfl rfl ?_
      refine z_ald S hE hW (Nat.lt_of_lt_of_le (by decide) hn) cM_6 (3 + knN (al (17 + i) j)) (by rw [knd_nI]; exact nI_add 3 _) (Nat.add_lt_add_left (knN_lt _) 3) (by decide) (v := (unlS al i 0 j) (8 + 0) (knN (al (17 + i) j))) ((r_mk (k := (knN (al (17 + i) j))) (knN_lt _))) dX4_unload_30 ?_
      refine lv_iconst (v := 1) hx hb dX4_unload_31 (by decide) ?_
      refine lv_iadd hx hb dX4_unload_32 ?_
      refine z_ast (ce' := cM cy ad (zup (enc (unlS al i 0 j) th) 6 (3 + knN (al (17 + i) j)) ((unlS al i 0 j) (8 + 0) (knN (al (17 + i) j)) + 1)) ex) S hE hW (Nat.lt_of_lt_of_le (by decide) hn) cM_6 (3 + knN (al (17 + i) j)) (by rw [knd_nI]; exact nI_add 3 _) (Nat.add_lt_add_left (knN_lt _) 3) (by decide) pM_6 (fun j h => cM_o h) dX4_unload_33 (fun H locs hW => ?_)
      rw [e_mk (knN_lt _)] at hW
      refine lv_iinc (v := nI (j + 1)) (lv' := [(2, .int (nI (j + 1))), (0, .ref (ad 28)), (1, .int (nI i))]) hx hb dX4_unload_34 hl (k := 2) rfl (nI_1 _) (by decide) rfl (fun ls hl => ?_)
      refine lv_goto (tgt := 2) hx hb dX4_unload_37 (by decide) ?_
      exact ih (j + 1) H locs ls (by omega) hW (lv_sub hl [1, 2, 0] rfl)
  exact L2 (a) 0 _ _ ls (by omega) hW (lv_sub hl [1, 2, 0] rfl)
set_option maxHeartbeats 4000000 in
set_option maxRecDepth 100000 in
theorem cX4_aboard_ok (l : Launch) (D : va_G) (n : Nat) (ad cy sa : Nat → Nat) (sz : Nat) (hn : 35 ≤ n) (al : Nat → Nat → Int32) (th : Int32) (ex : Nat → va_E) (N : Nat) (hN : al 0 4 = nI N) (hN6 : N ≤ 6) : Met l yX4_aboard wsX4_aboard ({ frames := 1, cells := 0, slots := 0, locals := 22 }) (PW D n ad cy sa sz (cM cy ad (enc al th) ex) [.ref (ad 28)]) (QDi D n ad sz (sumI (fun i => al (10 + i) 2) N) (cM cy ad (enc al th) ex)) 0 0 (Acc n ad sz) := by
  refine zs_met (cc := cX4_aboard) (maxL := 3) (ret := (some .int)) (own := RX4) (by decide) rfl rfl (Nat.le_of_ble_eq_true rfl) ?_
  intro p e s m args below meth c ls S hE hW hr hlk hsz hav hl
  subst hsz
  have hx := S.1
  have hb := S.2.1
  have hown := S.2.2.2.1
  have hts := S.2.2.2.2
  have hl : lv_has ls 3 [(0, .ref (ad 28))] := hl
  have f32 := hts (.fieldLink RX4 32 "PumiceSledgeModel" "sledges" "I") (by decide +kernel)
  have hi4 : ∀ w ∈ wsX40, w ∈ wsX4_aboard := by decide +kernel
  refine lv_iconst (v := 0) hx hb dX4_aboard_0 (by decide) ?_
  refine lv_istore_n (lv' := [(1, .int 0), (0, .ref (ad 28))]) hx hb dX4_aboard_1 rfl hl (by decide) rfl (fun ls hl => ?_)
  refine lv_iconst (v := 0) hx hb dX4_aboard_2 (by decide) ?_
  refine lv_istore_n (lv' := [(2, .int 0), (1, .int 0), (0, .ref (ad 28))]) hx hb dX4_aboard_3 rfl hl (by decide) rfl (fun ls hl => ?_)
  have L4 : ∀ (kq j : Nat) (H : Heap) (locs : List Loc) (ls : Array Slot), j + kq = N → WS D n ad (cM cy ad (enc al th) ex) (Acc n ad s.heap.size) s.heap H locs → lv_has ls 3 [(0, .ref (ad 28)), (1, .int (sumI (fun i => al (10 + i) 2) j)), (2, .int (nI j))] → W p l e { frames := 1, cells := 0, slots := 0, locals := 22 } s m args below meth c H locs 0 0 (MQ below (QDi D n ad s.heap.size (sumI (fun i => al (10 + i) 2) N) (cM cy ad (enc al th) ex)) args s 0 0 (Acc n ad s.heap.size)) (F0 m 4 ls []) := by
    intro kq
    induction kq with
    | zero =>
      intro j H locs ls hjk hW hl
      have hjN : j = N := by omega
      try rw [hjN] at hW
      try rw [hjN] at hl
      refine lv_iload_n hx hb dX4_aboard_4 rfl (lv_at hl 2 rfl) ?_
      refine lv_aload_n hx hb dX4_aboard_5 rfl (lv_at hl 0 rfl) ?_
      refine z_get (C := RX4) (T := TX4) (N := 9) (ci := 4) S hE hW hi4 rfl (Nat.lt_of_lt_of_le (by decide) hn) cM_0 1 (by decide) rfl f32 (v := .int (nI N)) (congrArg (fun z => some (Value.int z)) ((r_n).trans (hN))) dX4_aboard_6 ?_
      refine lv_icmp_ge (tgt := 27) hx hb dX4_aboard_9 (by decide) (fun _ => ?_) (fun h => absurd (nI_le (Nat.le_refl N) (by omega)) h)
      refine lv_iload_n hx hb dX4_aboard_27 rfl (lv_at hl 1 rfl) ?_
      exact ze_i S hW hr hlk () rfl rfl (Nat.le_of_ble_eq_true rfl) (Nat.le_of_ble_eq_true rfl) dX4_aboard_28
    | succ kq ih =>
      intro j H locs ls hjk hW hl
      have hj : j < N := by omega
      refine lv_iload_n hx hb dX4_aboard_4 rfl (lv_at hl 2 rfl) ?_
      refine lv_aload_n hx hb dX4_aboard_5 rfl (lv_at hl 0 rfl) ?_
      refine z_get (C := RX4) (T := TX4) (N := 9) (ci := 4) S hE hW hi4 rfl (Nat.lt_of_lt_of_le (by decide) hn) cM_0 1 (by decide) rfl f32 (v := .int (nI N)) (congrArg (fun z => some (Value.int z)) ((r_n).trans (hN))) dX4_aboard_6 ?_
      refine lv_icmp_ge (tgt := 27) hx hb dX4_aboard_9 (by decide) (fun h => absurd h (nI_ge hj (by omega))) (fun _ => ?_)
      refine lv_iload_n hx hb dX4_aboard_12 rfl (lv_at hl 1 rfl) ?_
      refine lv_aload_n hx hb dX4_aboard_13 rfl (lv_at hl 0 rfl) ?_
      refine lv_iload_n hx hb dX4_aboard_14 rfl (lv_at hl 2 rfl) ?_
      refine lv_iconst (v := 1) hx hb dX4_aboard_15 (by decide) ?_
      refine z_cVi (As := [.int (nI j), .int 1]) (rest := [.int (sumI (fun i => al (10 + i) 2) j)]) (k := 28) S hE hW (cX4_sl_ok l D n ad cy sa H.size hn (enc al th) ex j (by omega) 1 (by omega)) (cwV 2 hts gX4_aboard_X4_sl rfl rfl rfl (by decide +kernel) ⟨Nat.le_of_ble_eq_true rfl, Nat.le_of_ble_eq_true rfl⟩) (Nat.lt_of_lt_of_le (by decide) hn) cM_0 rfl rfl rfl hl.1 rfl (Nat.le_of_ble_eq_true rfl) dX4_aboard_16 ⟨Nat.le_of_ble_eq_true rfl, Nat.le_of_ble_eq_true rfl⟩ (fun r _ H locs hp hW => ?_)
      subst hp
      refine z_top2 (y := al (10 + j) 2) (r_s1 (by omega)) ?_
      refine lv_iadd hx hb dX4_aboard_19 ?_
      refine lv_istore_n (lv' := [(1, .int (sumI (fun i => al (10 + i) 2) j + al (10 + j) 2)), (0, .ref (ad 28)), (2, .int (nI j))]) hx hb dX4_aboard_20 rfl hl (by decide) rfl (fun ls hl => ?_)
      refine lv_iinc (v := nI (j + 1)) (lv' := [(2, .int (nI (j + 1))), (1, .int (sumI (fun i => al (10 + i) 2) j + al (10 + j) 2)), (0, .ref (ad 28))]) hx hb dX4_aboard_21 hl (k := 2) rfl (nI_1 _) (by decide) rfl (fun ls hl => ?_)
      refine lv_goto (tgt := 4) hx hb dX4_aboard_24 (by decide) ?_
      exact ih (j + 1) H locs ls (by omega) hW (lv_sub hl [2, 1, 0] rfl)
  exact L4 (N) 0 _ _ ls (by omega) hW (lv_sub hl [2, 1, 0] rfl)
set_option maxHeartbeats 4000000 in
set_option maxRecDepth 100000 in
theorem cX4_ashore_ok (l : Launch) (D : va_G) (n : Nat) (ad cy sa : Nat → Nat) (sz : Nat) (hn : 35 ≤ n) (al : Nat → Nat → Int32) (th : Int32) (ex : Nat → va_E)  : Met l yX4_ashore wsX4_ashore ({ frames := 0, cells := 0, slots := 0, locals := 0 }) (PW D n ad cy sa sz (cM cy ad (enc al th) ex) [.ref (ad 28)]) (QDi D n ad sz (((al (8 + 0) 0 + al (8 + 0) 1) + al (8 + 0) 2)) (cM cy ad (enc al th) ex)) 0 0 (Acc n ad sz) := by
  refine zs_met (cc := cX4_ashore) (maxL := 1) (ret := (some .int)) (own := RX4) (by decide) rfl rfl (Nat.le_of_ble_eq_true rfl) ?_
  intro p e s m args below meth c ls S hE hW hr hlk hsz hav hl
  subst hsz
  have hx := S.1
  have hb := S.2.1
  have hown := S.2.2.2.1
  have hts := S.2.2.2.2
  have hl : lv_has ls 1 [(0, .ref (ad 28))] := hl
  have f25 := hts (.fieldLink RX4 25 "PumiceSledgeModel" "numbers" "[I") (by decide +kernel)
  have hi4 : ∀ w ∈ wsX40, w ∈ wsX4_ashore := by decide +kernel
  refine lv_aload_n hx hb dX4_ashore_0 rfl (lv_at hl 0 rfl) ?_
  refine z_get (C := RX4) (T := TX4) (N := 9) (ci := 4) S hE hW hi4 rfl (Nat.lt_of_lt_of_le (by decide) hn) cM_0 8 (by decide) rfl f25 (v := .ref (ad 34)) rfl dX4_ashore_1 ?_
  refine lv_iconst (v := 3) hx hb dX4_ashore_4 (by decide) ?_
  refine z_ald S hE hW (Nat.lt_of_lt_of_le (by decide) hn) cM_6 3 rfl (by decide) (by decide) (v := al (8 + 0) 0) ((r_mk (k := 0) (by decide))) dX4_ashore_5 ?_
  refine lv_aload_n hx hb dX4_ashore_6 rfl (lv_at hl 0 rfl) ?_
  refine z_get (C := RX4) (T := TX4) (N := 9) (ci := 4) S hE hW hi4 rfl (Nat.lt_of_lt_of_le (by decide) hn) cM_0 8 (by decide) rfl f25 (v := .ref (ad 34)) rfl dX4_ashore_7 ?_
  refine lv_iconst (v := 4) hx hb dX4_ashore_10 (by decide) ?_
  refine z_ald S hE hW (Nat.lt_of_lt_of_le (by decide) hn) cM_6 4 rfl (by decide) (by decide) (v := al (8 + 0) 1) ((r_mk (k := 1) (by decide))) dX4_ashore_11 ?_
  refine lv_iadd hx hb dX4_ashore_12 ?_
  refine lv_aload_n hx hb dX4_ashore_13 rfl (lv_at hl 0 rfl) ?_
  refine z_get (C := RX4) (T := TX4) (N := 9) (ci := 4) S hE hW hi4 rfl (Nat.lt_of_lt_of_le (by decide) hn) cM_0 8 (by decide) rfl f25 (v := .ref (ad 34)) rfl dX4_ashore_14 ?_
  refine lv_iconst (v := 5) hx hb dX4_ashore_17 (by decide) ?_
  refine z_ald S hE hW (Nat.lt_of_lt_of_le (by decide) hn) cM_6 5 rfl (by decide) (by decide) (v := al (8 + 0) 2) ((r_mk (k := 2) (by decide))) dX4_ashore_18 ?_
  refine lv_iadd hx hb dX4_ashore_19 ?_
  exact ze_i S hW hr hlk () rfl rfl (Nat.le_of_ble_eq_true rfl) (Nat.le_of_ble_eq_true rfl) dX4_ashore_20
set_option maxHeartbeats 4000000 in
set_option maxRecDepth 100000 in
theorem cX4_layerTold_ok (l : Launch) (D : va_G) (n : Nat) (ad cy sa : Nat → Nat) (sz : Nat) (hn : 35 ≤ n) (al : Nat → Nat → Int32) (th : Int32) (ex : Nat → va_E) (j : Nat) (hj : j < 5) (q : Nat) (hq : q < 4) : Met l yX4_layerTold wsX4_layerTold ({ frames := 1, cells := 0, slots := 0, locals := 20 }) (PW D n ad cy sa sz (cM cy ad (enc al th) ex) [.ref (ad 28), .int (nI j), .int (nI q)]) (QDi D n ad sz (v_layer al (nI j) (nI q)) (cM cy ad (enc al th) ex)) 0 0 (Acc n ad sz) := by
  refine zs_met (cc := cX4_layerTold) (maxL := 3) (ret := (some .int)) (own := RX4) (by decide) rfl rfl (Nat.le_of_ble_eq_true rfl) ?_
  intro p e s m args below meth c ls S hE hW hr hlk hsz hav hl
  subst hsz
  have hx := S.1
  have hb := S.2.1
  have hown := S.2.2.2.1
  have hts := S.2.2.2.2
  have hl : lv_has ls 3 [(0, .ref (ad 28)), (1, .int (nI j)), (2, .int (nI q))] := hl
  have f9 := hts (.fieldLink RX4 9 "PumiceSledgeModel" "stones" "[I") (by decide +kernel)
  have hi4 : ∀ w ∈ wsX40, w ∈ wsX4_layerTold := by decide +kernel
  have f13 := hts (.fieldLink RX4 13 "PumiceSledgeModel" "weights" "[I") (by decide +kernel)
  rcases (show q = 0 ∨ q = 1 ∨ q = 2 ∨ q = 3 by omega) with rfl | rfl | rfl | rfl
  · refine lv_iload_n hx hb dX4_layerTold_0 rfl (lv_at hl 2 rfl) ?_
    refine lv_if_ne (tgt := 13) hx hb dX4_layerTold_1 (by decide) (fun h => absurd (by decide) h) (fun _ => ?_)
    refine lv_aload_n hx hb dX4_layerTold_4 rfl (lv_at hl 0 rfl) ?_
    refine z_get (C := RX4) (T := TX4) (N := 9) (ci := 4) S hE hW hi4 rfl (Nat.lt_of_lt_of_le (by decide) hn) cM_0 3 (by decide) rfl f9 (v := .ref (ad 29)) rfl dX4_layerTold_5 ?_
    refine lv_iload_n hx hb dX4_layerTold_8 rfl (lv_at hl 1 rfl) ?_
    refine z_ald S hE hW (Nat.lt_of_lt_of_le (by decide) hn) cM_1 j rfl (by omega) (by decide) (v := al 1 j) (r_st) dX4_layerTold_9 ?_
    refine lv_goto (tgt := 56) hx hb dX4_layerTold_10 (by decide) ?_
    exact ze_i S hW hr hlk () rfl (by unfold v_layer; rw [if_pos (by decide), ix_nI (show j < 2 ^ 31 by omega)]) (Nat.le_of_ble_eq_true rfl) (Nat.le_of_ble_eq_true rfl) dX4_layerTold_56
  · refine lv_iload_n hx hb dX4_layerTold_0 rfl (lv_at hl 2 rfl) ?_
    refine lv_if_ne (tgt := 13) hx hb dX4_layerTold_1 (by decide) (fun _ => ?_) (fun h => absurd h (by decide))
    refine lv_iload_n hx hb dX4_layerTold_13 rfl (lv_at hl 2 rfl) ?_
    refine lv_iconst (v := 1) hx hb dX4_layerTold_14 (by decide) ?_
    refine lv_icmp_ne (tgt := 27) hx hb dX4_layerTold_15 (by decide) (fun h => absurd (by decide) h) (fun _ => ?_)
    refine lv_aload_n hx hb dX4_layerTold_18 rfl (lv_at hl 0 rfl) ?_
    refine z_get (C := RX4) (T := TX4) (N := 9) (ci := 4) S hE hW hi4 rfl (Nat.lt_of_lt_of_le (by decide) hn) cM_0 4 (by decide) rfl f13 (v := .ref (ad 30)) rfl dX4_layerTold_19 ?_
    refine lv_iload_n hx hb dX4_layerTold_22 rfl (lv_at hl 1 rfl) ?_
    refine z_ald S hE hW (Nat.lt_of_lt_of_le (by decide) hn) cM_2 j rfl (by omega) (by decide) (v := al 2 j) (r_sw) dX4_layerTold_23 ?_
    refine lv_goto (tgt := 56) hx hb dX4_layerTold_24 (by decide) ?_
    exact ze_i S hW hr hlk () rfl (by unfold v_layer; rw [if_neg (by decide), if_pos (by decide), ix_nI (show j < 2 ^ 31 by omega)]) (Nat.le_of_ble_eq_true rfl) (Nat.le_of_ble_eq_true rfl) dX4_layerTold_56
  · refine lv_iload_n hx hb dX4_layerTold_0 rfl (lv_at hl 2 rfl) ?_
    refine lv_if_ne (tgt := 13) hx hb dX4_layerTold_1 (by decide) (fun _ => ?_) (fun h => absurd h (by decide))
    refine lv_iload_n hx hb dX4_layerTold_13 rfl (lv_at hl 2 rfl) ?_
    refine lv_iconst (v := 1) hx hb dX4_layerTold_14 (by decide) ?_
    refine lv_icmp_ne (tgt := 27) hx hb dX4_layerTold_15 (by decide) (fun _ => ?_) (fun h => absurd h (by decide))
    refine lv_iload_n hx hb dX4_layerTold_27 rfl (lv_at hl 2 rfl) ?_
    refine lv_iconst (v := 2) hx hb dX4_layerTold_28 (by decide) ?_
    refine lv_icmp_ne (tgt := 47) hx hb dX4_layerTold_29 (by decide) (fun h => absurd (by decide) h) (fun _ => ?_)
    refine lv_bipush (v := 10) hx hb dX4_layerTold_32 (by decide) ?_
    refine lv_aload_n hx hb dX4_layerTold_34 rfl (lv_at hl 0 rfl) ?_
    refine z_get (C := RX4) (T := TX4) (N := 9) (ci := 4) S hE hW hi4 rfl (Nat.lt_of_lt_of_le (by decide) hn) cM_0 4 (by decide) rfl f13 (v := .ref (ad 30)) rfl dX4_layerTold_35 ?_
    refine lv_iload_n hx hb dX4_layerTold_38 rfl (lv_at hl 1 rfl) ?_
    refine z_ald S hE hW (Nat.lt_of_lt_of_le (by decide) hn) cM_2 j rfl (by omega) (by decide) (v := al 2 j) (r_sw) dX4_layerTold_39 ?_
    refine lv_imul hx hb dX4_layerTold_40 ?_
    refine z_pS (As := [.int (10 * al 2 j)]) (rest := []) S hE hW (cX4_kind_ok l (10 * al 2 j)) (va_cwS 1 hts gX4_layerTold_X4_kind rfl rfl rfl (by decide +kernel) ⟨Nat.le_of_ble_eq_true rfl, Nat.le_of_ble_eq_true rfl⟩) rfl hl.1 rfl (Nat.le_of_ble_eq_true rfl) dX4_layerTold_41 ⟨Nat.le_of_ble_eq_true rfl, Nat.le_of_ble_eq_true rfl⟩ (fun H locs hW => ?_)
    refine lv_goto (tgt := 56) hx hb dX4_layerTold_44 (by decide) ?_
    exact ze_i S hW hr hlk () rfl (by unfold v_layer; rw [if_neg (by decide), if_neg (by decide), if_pos (by decide), ix_nI (show j < 2 ^ 31 by omega)]) (Nat.le_of_ble_eq_true rfl) (Nat.le_of_ble_eq_true rfl) dX4_layerTold_56
  · refine lv_iload_n hx hb dX4_layerTold_0 rfl (lv_at hl 2 rfl) ?_
    refine lv_if_ne (tgt := 13) hx hb dX4_layerTold_1 (by decide) (fun _ => ?_) (fun h => absurd h (by decide))
    refine lv_iload_n hx hb dX4_layerTold_13 rfl (lv_at hl 2 rfl) ?_
    refine lv_iconst (v := 1) hx hb dX4_layerTold_14 (by decide) ?_
    refine lv_icmp_ne (tgt := 27) hx hb dX4_layerTold_15 (by decide) (fun _ => ?_) (fun h => absurd h (by decide))
    refine lv_iload_n hx hb dX4_layerTold_27 rfl (lv_at hl 2 rfl) ?_
    refine lv_iconst (v := 2) hx hb dX4_layerTold_28 (by decide) ?_
    refine lv_icmp_ne (tgt := 47) hx hb dX4_layerTold_29 (by decide) (fun _ => ?_) (fun h => absurd h (by decide))
    refine lv_aload_n hx hb dX4_layerTold_47 rfl (lv_at hl 0 rfl) ?_
    refine z_get (C := RX4) (T := TX4) (N := 9) (ci := 4) S hE hW hi4 rfl (Nat.lt_of_lt_of_le (by decide) hn) cM_0 3 (by decide) rfl f9 (v := .ref (ad 29)) rfl dX4_layerTold_48 ?_
    refine lv_iload_n hx hb dX4_layerTold_51 rfl (lv_at hl 1 rfl) ?_
    refine z_ald S hE hW (Nat.lt_of_lt_of_le (by decide) hn) cM_1 j rfl (by omega) (by decide) (v := al 1 j) (r_st) dX4_layerTold_52 ?_
    refine lv_bipush (v := 10) hx hb dX4_layerTold_53 (by decide) ?_
    refine lv_idiv hx hb dX4_layerTold_55 (by decide) ?_
    exact ze_i S hW hr hlk () rfl (by unfold v_layer; rw [if_neg (by decide), if_neg (by decide), if_neg (by decide), ix_nI (show j < 2 ^ 31 by omega)]) (Nat.le_of_ble_eq_true rfl) (Nat.le_of_ble_eq_true rfl) dX4_layerTold_56
set_option maxHeartbeats 4000000 in
set_option maxRecDepth 100000 in
theorem cX4_sledgeTold_ok (l : Launch) (D : va_G) (n : Nat) (ad cy sa : Nat → Nat) (sz : Nat) (hn : 35 ≤ n) (al : Nat → Nat → Int32) (th : Int32) (ex : Nat → va_E) (N : Nat) (hN : al 0 4 = nI N) (hN6 : N ≤ 6) (i : Nat) (hi : i < N) (a : Nat) (ha : al (10 + i) 2 = nI a) (ha8 : a ≤ 8) (q : Nat) (hq : q < 6) : Met l yX4_sledgeTold wsX4_sledgeTold ({ frames := 1, cells := 0, slots := 0, locals := 22 }) (PW D n ad cy sa sz (cM cy ad (enc al th) ex) [.ref (ad 28), .int (nI i), .int (nI q)]) (QDi D n ad sz (v_told al (nI i) (nI q)) (cM cy ad (enc al th) ex)) 0 0 (Acc n ad sz) := by
  refine zs_met (cc := cX4_sledgeTold) (maxL := 6) (ret := (some .int)) (own := RX4) (by decide) rfl rfl (Nat.le_of_ble_eq_true rfl) ?_
  intro p e s m args below meth c ls S hE hW hr hlk hsz hav hl
  subst hsz
  have hx := S.1
  have hb := S.2.1
  have hown := S.2.2.2.1
  have hts := S.2.2.2.2
  have hl : lv_has ls 6 [(0, .ref (ad 28)), (1, .int (nI i)), (2, .int (nI q))] := hl
  rcases (show q = 0 ∨ q = 1 ∨ q = 2 ∨ q = 3 ∨ q = 4 ∨ q = 5 by omega) with rfl | rfl | rfl | rfl | rfl | rfl
  · refine lv_iload_n hx hb dX4_sledgeTold_0 rfl (lv_at hl 2 rfl) ?_
    refine lv_iconst (v := 4) hx hb dX4_sledgeTold_1 (by decide) ?_
    refine lv_icmp_ge (tgt := 12) hx hb dX4_sledgeTold_2 (by decide) (fun h => absurd h (by decide)) (fun _ => ?_)
    refine lv_aload_n hx hb dX4_sledgeTold_5 rfl (lv_at hl 0 rfl) ?_
    refine lv_iload_n hx hb dX4_sledgeTold_6 rfl (lv_at hl 1 rfl) ?_
    refine lv_iload_n hx hb dX4_sledgeTold_7 rfl (lv_at hl 2 rfl) ?_
    refine z_cVi (As := [.int (nI i), .int 0]) (rest := []) (k := 28) S hE hW (cX4_sl_ok l D n ad cy sa s.heap.size hn (enc al th) ex i (by omega) 0 (by omega)) (cwV 2 hts gX4_sledgeTold_X4_sl rfl rfl rfl (by decide +kernel) ⟨Nat.le_of_ble_eq_true rfl, Nat.le_of_ble_eq_true rfl⟩) (Nat.lt_of_lt_of_le (by decide) hn) cM_0 rfl rfl rfl hl.1 rfl (Nat.le_of_ble_eq_true rfl) dX4_sledgeTold_8 ⟨Nat.le_of_ble_eq_true rfl, Nat.le_of_ble_eq_true rfl⟩ (fun r _ H locs hp hW => ?_)
    subst hp
    refine z_top2 (y := al (10 + i) 0) (r_s0 (by omega)) ?_
    exact ze_i S hW hr hlk () rfl (by unfold v_told; rw [if_pos (by decide), ix_nI (show i < 2 ^ 31 by omega)]) (Nat.le_of_ble_eq_true rfl) (Nat.le_of_ble_eq_true rfl) dX4_sledgeTold_11
  · refine lv_iload_n hx hb dX4_sledgeTold_0 rfl (lv_at hl 2 rfl) ?_
    refine lv_iconst (v := 4) hx hb dX4_sledgeTold_1 (by decide) ?_
    refine lv_icmp_ge (tgt := 12) hx hb dX4_sledgeTold_2 (by decide) (fun h => absurd h (by decide)) (fun _ => ?_)
    refine lv_aload_n hx hb dX4_sledgeTold_5 rfl (lv_at hl 0 rfl) ?_
    refine lv_iload_n hx hb dX4_sledgeTold_6 rfl (lv_at hl 1 rfl) ?_
    refine lv_iload_n hx hb dX4_sledgeTold_7 rfl (lv_at hl 2 rfl) ?_
    refine z_cVi (As := [.int (nI i), .int 1]) (rest := []) (k := 28) S hE hW (cX4_sl_ok l D n ad cy sa s.heap.size hn (enc al th) ex i (by omega) 1 (by omega)) (cwV 2 hts gX4_sledgeTold_X4_sl rfl rfl rfl (by decide +kernel) ⟨Nat.le_of_ble_eq_true rfl, Nat.le_of_ble_eq_true rfl⟩) (Nat.lt_of_lt_of_le (by decide) hn) cM_0 rfl rfl rfl hl.1 rfl (Nat.le_of_ble_eq_true rfl) dX4_sledgeTold_8 ⟨Nat.le_of_ble_eq_true rfl, Nat.le_of_ble_eq_true rfl⟩ (fun r _ H locs hp hW => ?_)
    subst hp
    refine z_top2 (y := nI a) ((r_s1 (by omega)).trans (ha)) ?_
    exact ze_i S hW hr hlk () rfl (by unfold v_told; rw [if_neg (by decide), if_pos (by decide), ix_nI (show i < 2 ^ 31 by omega)]; exact ha.symm) (Nat.le_of_ble_eq_true rfl) (Nat.le_of_ble_eq_true rfl) dX4_sledgeTold_11
  · refine lv_iload_n hx hb dX4_sledgeTold_0 rfl (lv_at hl 2 rfl) ?_
    refine lv_iconst (v := 4) hx hb dX4_sledgeTold_1 (by decide) ?_
    refine lv_icmp_ge (tgt := 12) hx hb dX4_sledgeTold_2 (by decide) (fun h => absurd h (by decide)) (fun _ => ?_)
    refine lv_aload_n hx hb dX4_sledgeTold_5 rfl (lv_at hl 0 rfl) ?_
    refine lv_iload_n hx hb dX4_sledgeTold_6 rfl (lv_at hl 1 rfl) ?_
    refine lv_iload_n hx hb dX4_sledgeTold_7 rfl (lv_at hl 2 rfl) ?_
    refine z_cVi (As := [.int (nI i), .int 2]) (rest := []) (k := 28) S hE hW (cX4_sl_ok l D n ad cy sa s.heap.size hn (enc al th) ex i (by omega) 2 (by omega)) (cwV 2 hts gX4_sledgeTold_X4_sl rfl rfl rfl (by decide +kernel) ⟨Nat.le_of_ble_eq_true rfl, Nat.le_of_ble_eq_true rfl⟩) (Nat.lt_of_lt_of_le (by decide) hn) cM_0 rfl rfl rfl hl.1 rfl (Nat.le_of_ble_eq_true rfl) dX4_sledgeTold_8 ⟨Nat.le_of_ble_eq_true rfl, Nat.le_of_ble_eq_true rfl⟩ (fun r _ H locs hp hW => ?_)
    subst hp
    refine z_top2 (y := al (10 + i) 3) (r_s2 (by omega) (z_inN (hN) (by omega) (by omega))) ?_
    exact ze_i S hW hr hlk () rfl (by unfold v_told; rw [if_neg (by decide), if_neg (by decide), if_pos (by decide), ix_nI (show i < 2 ^ 31 by omega)]) (Nat.le_of_ble_eq_true rfl) (Nat.le_of_ble_eq_true rfl) dX4_sledgeTold_11
  · refine lv_iload_n hx hb dX4_sledgeTold_0 rfl (lv_at hl 2 rfl) ?_
    refine lv_iconst (v := 4) hx hb dX4_sledgeTold_1 (by decide) ?_
    refine lv_icmp_ge (tgt := 12) hx hb dX4_sledgeTold_2 (by decide) (fun h => absurd h (by decide)) (fun _ => ?_)
    refine lv_aload_n hx hb dX4_sledgeTold_5 rfl (lv_at hl 0 rfl) ?_
    refine lv_iload_n hx hb dX4_sledgeTold_6 rfl (lv_at hl 1 rfl) ?_
    refine lv_iload_n hx hb dX4_sledgeTold_7 rfl (lv_at hl 2 rfl) ?_
    refine z_cVi (As := [.int (nI i), .int 3]) (rest := []) (k := 28) S hE hW (cX4_sl_ok l D n ad cy sa s.heap.size hn (enc al th) ex i (by omega) 3 (by omega)) (cwV 2 hts gX4_sledgeTold_X4_sl rfl rfl rfl (by decide +kernel) ⟨Nat.le_of_ble_eq_true rfl, Nat.le_of_ble_eq_true rfl⟩) (Nat.lt_of_lt_of_le (by decide) hn) cM_0 rfl rfl rfl hl.1 rfl (Nat.le_of_ble_eq_true rfl) dX4_sledgeTold_8 ⟨Nat.le_of_ble_eq_true rfl, Nat.le_of_ble_eq_true rfl⟩ (fun r _ H locs hp hW => ?_)
    subst hp
    refine z_top2 (y := al (10 + i) 4) (r_s3 (by omega)) ?_
    exact ze_i S hW hr hlk () rfl (by unfold v_told; rw [if_neg (by decide), if_neg (by decide), if_neg (by decide), if_pos (by decide), ix_nI (show i < 2 ^ 31 by omega)]) (Nat.le_of_ble_eq_true rfl) (Nat.le_of_ble_eq_true rfl) dX4_sledgeTold_11
  · refine lv_iload_n hx hb dX4_sledgeTold_0 rfl (lv_at hl 2 rfl) ?_
    refine lv_iconst (v := 4) hx hb dX4_sledgeTold_1 (by decide) ?_
    refine lv_icmp_ge (tgt := 12) hx hb dX4_sledgeTold_2 (by decide) (fun _ => ?_) (fun h => absurd (by decide) h)
    refine lv_aload_n hx hb dX4_sledgeTold_12 rfl (lv_at hl 0 rfl) ?_
    refine lv_iload_n hx hb dX4_sledgeTold_13 rfl (lv_at hl 1 rfl) ?_
    refine lv_iconst (v := 1) hx hb dX4_sledgeTold_14 (by decide) ?_
    refine z_cVi (As := [.int (nI i), .int 1]) (rest := []) (k := 28) S hE hW (cX4_sl_ok l D n ad cy sa s.heap.size hn (enc al th) ex i (by omega) 1 (by omega)) (cwV 2 hts gX4_sledgeTold_X4_sl rfl rfl rfl (by decide +kernel) ⟨Nat.le_of_ble_eq_true rfl, Nat.le_of_ble_eq_true rfl⟩) (Nat.lt_of_lt_of_le (by decide) hn) cM_0 rfl rfl rfl hl.1 rfl (Nat.le_of_ble_eq_true rfl) dX4_sledgeTold_15 ⟨Nat.le_of_ble_eq_true rfl, Nat.le_of_ble_eq_true rfl⟩ (fun r _ H locs hp hW => ?_)
    subst hp
    refine z_top2 (y := nI a) ((r_s1 (by omega)).trans (ha)) ?_
    refine lv_istore_n (lv' := [(3, .int (nI a)), (0, .ref (ad 28)), (1, .int (nI i)), (2, .int 4)]) hx hb dX4_sledgeTold_18 rfl hl (by decide) rfl (fun ls hl => ?_)
    refine lv_iload_n hx hb dX4_sledgeTold_19 rfl (lv_at hl 3 rfl) ?_
    refine lv_iconst (v := 5) hx hb dX4_sledgeTold_20 (by decide) ?_
    refine lv_icmp_ne (tgt := 46) hx hb dX4_sledgeTold_21 (by decide) (fun _ => ?_) (fun h => absurd h (by decide))
    refine lv_iconst (v := 0) hx hb dX4_sledgeTold_46 (by decide) ?_
    refine lv_istore (lv' := [(4, .int 0), (3, .int (nI a)), (0, .ref (ad 28)), (1, .int (nI i)), (2, .int 4)]) hx hb dX4_sledgeTold_47 hl (by decide) rfl (fun ls hl => ?_)
    refine lv_iconst (v := 0) hx hb dX4_sledgeTold_49 (by decide) ?_
    refine lv_istore (lv' := [(5, .int 0), (4, .int 0), (3, .int (nI a)), (0, .ref (ad 28)), (1, .int (nI i)), (2, .int 4)]) hx hb dX4_sledgeTold_50 hl (by decide) rfl (fun ls hl => ?_)
    have L52 : ∀ (kq j : Nat) (H : Heap) (locs : List Loc) (ls : Array Slot), j + kq = a → WS D n ad (cM cy ad (enc al th) ex) (Acc n ad s.heap.size) s.heap H locs → lv_has ls 6 [(0, .ref (ad 28)), (1, .int (nI i)), (2, .int 4), (3, .int (nI a)), (4, .int (sumI (al (17 + i)) j)), (5, .int (nI j))] → W p l e { frames := 1, cells := 0, slots := 0, locals := 22 } s m args below meth c H locs 0 0 (MQ below (QDi D n ad s.heap.size (v_told al (nI i) (nI 4)) (cM cy ad (enc al th) ex)) args s 0 0 (Acc n ad s.heap.size)) (F0 m 52 ls []) := by
      intro kq
      induction kq with
      | zero =>
        intro j H locs ls hjk hW hl
        have hjN : j = a := by omega
        try rw [hjN] at hW
        try rw [hjN] at hl
        refine lv_iload hx hb dX4_sledgeTold_52 (lv_at hl 5 rfl) ?_
        refine lv_iload_n hx hb dX4_sledgeTold_54 rfl (lv_at hl 3 rfl) ?_
        refine lv_icmp_ge (tgt := 78) hx hb dX4_sledgeTold_55 (by decide) (fun _ => ?_) (fun h => absurd (nI_le (Nat.le_refl a) (by omega)) h)
        refine lv_iload hx hb dX4_sledgeTold_78 (lv_at hl 4 rfl) ?_
        exact ze_i S hW hr hlk () rfl (by unfold v_told; rw [if_neg (by decide), if_neg (by decide), if_neg (by decide), if_neg (by decide), if_pos (by decide), ix_nI (show i < 2 ^ 31 by omega), ha, ix_nI (show a < 2 ^ 31 by omega)]) (Nat.le_of_ble_eq_true rfl) (Nat.le_of_ble_eq_true rfl) dX4_sledgeTold_80
      | succ kq ih =>
        intro j H locs ls hjk hW hl
        have hj : j < a := by omega
        refine lv_iload hx hb dX4_sledgeTold_52 (lv_at hl 5 rfl) ?_
        refine lv_iload_n hx hb dX4_sledgeTold_54 rfl (lv_at hl 3 rfl) ?_
        refine lv_icmp_ge (tgt := 78) hx hb dX4_sledgeTold_55 (by decide) (fun h => absurd h (nI_ge hj (by omega))) (fun _ => ?_)
        refine lv_iload hx hb dX4_sledgeTold_58 (lv_at hl 4 rfl) ?_
        refine lv_aload_n hx hb dX4_sledgeTold_60 rfl (lv_at hl 0 rfl) ?_
        refine lv_iload_n hx hb dX4_sledgeTold_61 rfl (lv_at hl 1 rfl) ?_
        refine lv_iconst (v := 4) hx hb dX4_sledgeTold_62 (by decide) ?_
        refine lv_iload hx hb dX4_sledgeTold_63 (lv_at hl 5 rfl) ?_
        refine lv_iadd hx hb dX4_sledgeTold_65 ?_
        refine z_top2 (y := nI (4 + j)) (nI_add 4 j) ?_
        refine z_cVi (As := [.int (nI i), .int (nI (4 + j))]) (rest := [.int (sumI (al (17 + i)) j)]) (k := 28) S hE hW (cX4_sl_ok l D n ad cy sa H.size hn (enc al th) ex i (by omega) (4 + j) (by omega)) (cwV 2 hts gX4_sledgeTold_X4_sl rfl rfl rfl (by decide +kernel) ⟨Nat.le_of_ble_eq_true rfl, Nat.le_of_ble_eq_true rfl⟩) (Nat.lt_of_lt_of_le (by decide) hn) cM_0 rfl rfl rfl hl.1 rfl (Nat.le_of_ble_eq_true rfl) dX4_sledgeTold_66 ⟨Nat.le_of_ble_eq_true rfl, Nat.le_of_ble_eq_true rfl⟩ (fun r _ H locs hp hW => ?_)
        subst hp
        refine z_top2 (y := al (17 + i) j) (r_sw4 (k := j) (by omega) (by omega)) ?_
        refine lv_iadd hx hb dX4_sledgeTold_69 ?_
        refine lv_istore (lv' := [(4, .int (sumI (al (17 + i)) j + al (17 + i) j)), (0, .ref (ad 28)), (1, .int (nI i)), (2, .int 4), (3, .int (nI a)), (5, .int (nI j))]) hx hb dX4_sledgeTold_70 hl (by decide) rfl (fun ls hl => ?_)
        refine lv_iinc (v := nI (j + 1)) (lv' := [(5, .int (nI (j + 1))), (4, .int (sumI (al (17 + i)) j + al (17 + i) j)), (0, .ref (ad 28)), (1, .int (nI i)), (2, .int 4), (3, .int (nI a))]) hx hb dX4_sledgeTold_72 hl (k := 5) rfl (nI_1 _) (by decide) rfl (fun ls hl => ?_)
        refine lv_goto (tgt := 52) hx hb dX4_sledgeTold_75 (by decide) ?_
        exact ih (j + 1) H locs ls (by omega) hW (lv_sub hl [2, 3, 4, 5, 1, 0] rfl)
    exact L52 (a) 0 _ _ ls (by omega) hW (lv_sub hl [3, 4, 5, 2, 1, 0] rfl)
  · refine lv_iload_n hx hb dX4_sledgeTold_0 rfl (lv_at hl 2 rfl) ?_
    refine lv_iconst (v := 4) hx hb dX4_sledgeTold_1 (by decide) ?_
    refine lv_icmp_ge (tgt := 12) hx hb dX4_sledgeTold_2 (by decide) (fun _ => ?_) (fun h => absurd (by decide) h)
    refine lv_aload_n hx hb dX4_sledgeTold_12 rfl (lv_at hl 0 rfl) ?_
    refine lv_iload_n hx hb dX4_sledgeTold_13 rfl (lv_at hl 1 rfl) ?_
    refine lv_iconst (v := 1) hx hb dX4_sledgeTold_14 (by decide) ?_
    refine z_cVi (As := [.int (nI i), .int 1]) (rest := []) (k := 28) S hE hW (cX4_sl_ok l D n ad cy sa s.heap.size hn (enc al th) ex i (by omega) 1 (by omega)) (cwV 2 hts gX4_sledgeTold_X4_sl rfl rfl rfl (by decide +kernel) ⟨Nat.le_of_ble_eq_true rfl, Nat.le_of_ble_eq_true rfl⟩) (Nat.lt_of_lt_of_le (by decide) hn) cM_0 rfl rfl rfl hl.1 rfl (Nat.le_of_ble_eq_true rfl) dX4_sledgeTold_15 ⟨Nat.le_of_ble_eq_true rfl, Nat.le_of_ble_eq_true rfl⟩ (fun r _ H locs hp hW => ?_)
    subst hp
    refine z_top2 (y := nI a) ((r_s1 (by omega)).trans (ha)) ?_
    refine lv_istore_n (lv' := [(3, .int (nI a)), (0, .ref (ad 28)), (1, .int (nI i)), (2, .int 5)]) hx hb dX4_sledgeTold_18 rfl hl (by decide) rfl (fun ls hl => ?_)
    refine lv_iload_n hx hb dX4_sledgeTold_19 rfl (lv_at hl 3 rfl) ?_
    refine lv_iconst (v := 5) hx hb dX4_sledgeTold_20 (by decide) ?_
    refine lv_icmp_ne (tgt := 46) hx hb dX4_sledgeTold_21 (by decide) (fun h => absurd (by decide) h) (fun _ => ?_)
    refine lv_iload_n hx hb dX4_sledgeTold_24 rfl (lv_at hl 0 rfl) ?_
    refine lv_if_ne (tgt := 32) hx hb dX4_sledgeTold_25 (by decide) (fun c25 => ?_) (fun c25 => ?_)
    · have ha0 : 0 < a := z_pos c25
      refine lv_aload_n hx hb dX4_sledgeTold_32 rfl (lv_at hl 1 rfl) ?_
      refine lv_iload_n hx hb dX4_sledgeTold_33 rfl (lv_at hl 2 rfl) ?_
      refine lv_iconst (v := 4) hx hb dX4_sledgeTold_34 (by decide) ?_
      refine lv_iload_n hx hb dX4_sledgeTold_35 rfl (lv_at hl 0 rfl) ?_
      refine lv_iadd hx hb dX4_sledgeTold_36 ?_
      refine lv_iconst (v := 1) hx hb dX4_sledgeTold_37 (by decide) ?_
      refine lv_isub hx hb dX4_sledgeTold_38 ?_
      refine z_top2 (y := nI (4 + (a - 1))) (z_last ha0) ?_
      refine z_cVi (As := [.int (nI i), .int (nI (4 + (a - 1)))]) (rest := []) (k := 28) S hE hW (cX4_sl_ok l D n ad cy sa H.size hn (enc al th) ex i (by omega) (4 + (a - 1)) (by omega)) (cwV 2 hts gX4_sledgeTold_X4_sl rfl rfl rfl (by decide +kernel) ⟨Nat.le_of_ble_eq_true rfl, Nat.le_of_ble_eq_true rfl⟩) (Nat.lt_of_lt_of_le (by decide) hn) cM_0 rfl rfl rfl hl.1 rfl (Nat.le_of_ble_eq_true rfl) dX4_sledgeTold_39 ⟨Nat.le_of_ble_eq_true rfl, Nat.le_of_ble_eq_true rfl⟩ (fun r _ H locs hp hW => ?_)
      subst hp
      refine z_top2 (y := al (17 + i) (a - 1)) (r_sw4 (k := (a - 1)) (by omega) (by omega)) ?_
      refine z_pS (As := [.int (al (17 + i) (a - 1))]) (rest := []) S hE hW (cX4_kind_ok l (al (17 + i) (a - 1))) (va_cwS 1 hts gX4_sledgeTold_X4_kind rfl rfl rfl (by decide +kernel) ⟨Nat.le_of_ble_eq_true rfl, Nat.le_of_ble_eq_true rfl⟩) rfl hl.1 rfl (Nat.le_of_ble_eq_true rfl) dX4_sledgeTold_42 ⟨Nat.le_of_ble_eq_true rfl, Nat.le_of_ble_eq_true rfl⟩ (fun H locs hW => ?_)
      exact ze_i S hW hr hlk () rfl (by unfold v_told; rw [ix_nI (show i < 2 ^ 31 by omega), ha, ix_nI (show a < 2 ^ 31 by omega)]; exact Eq.symm ((if_neg (by decide)).trans ((if_neg (by decide)).trans ((if_neg (by decide)).trans ((if_neg (by decide)).trans ((if_neg (by decide)).trans (if_neg (nI_nle (z_pos c25) (by omega))))))))) (Nat.le_of_ble_eq_true rfl) (Nat.le_of_ble_eq_true rfl) dX4_sledgeTold_45
    · refine lv_iconst (v := (-1)) hx hb dX4_sledgeTold_28 (by decide) ?_
      refine lv_goto (tgt := 45) hx hb dX4_sledgeTold_29 (by decide) ?_
      exact ze_i S hW hr hlk () rfl (by unfold v_told; rw [ix_nI (show i < 2 ^ 31 by omega), ha, ix_nI (show a < 2 ^ 31 by omega)]; exact Eq.symm ((if_neg (by decide)).trans ((if_neg (by decide)).trans ((if_neg (by decide)).trans ((if_neg (by decide)).trans ((if_neg (by decide)).trans (if_pos (by rw [c25]; decide)))))))) (Nat.le_of_ble_eq_true rfl) (Nat.le_of_ble_eq_true rfl) dX4_sledgeTold_45
set_option maxHeartbeats 4000000 in
set_option maxRecDepth 100000 in
theorem cX4_boatTold_ok (l : Launch) (D : va_G) (n : Nat) (ad cy sa : Nat → Nat) (sz : Nat) (hn : 35 ≤ n) (al : Nat → Nat → Int32) (th : Int32) (ex : Nat → va_E) (i : Nat) (hi : i < 4) (q : Nat) (hq : q < 7) : Met l yX4_boatTold wsX4_boatTold ({ frames := 3, cells := 0, slots := 0, locals := 102 }) (PW D n ad cy sa sz (cM cy ad (enc al th) ex) [.ref (ad 28), .int (nI i), .int (nI q)]) (QDi D n ad sz (v_boat al (nI i) (nI q)) (cM cy ad (enc al th) ex)) 0 0 (Acc n ad sz) := by
  refine zs_met (cc := cX4_boatTold) (maxL := 3) (ret := (some .int)) (own := RX4) (by decide) rfl rfl (Nat.le_of_ble_eq_true rfl) ?_
  intro p e s m args below meth c ls S hE hW hr hlk hsz hav hl
  subst hsz
  have hx := S.1
  have hb := S.2.1
  have hown := S.2.2.2.1
  have hts := S.2.2.2.2
  have hl : lv_has ls 3 [(0, .ref (ad 28)), (1, .int (nI i)), (2, .int (nI q))] := hl
  rcases (show q = 0 ∨ q = 1 ∨ q = 2 ∨ q = 3 ∨ q = 4 ∨ q = 5 ∨ q = 6 by omega) with rfl | rfl | rfl | rfl | rfl | rfl | rfl
  · refine lv_iload_n hx hb dX4_boatTold_0 rfl (lv_at hl 2 rfl) ?_
    refine lv_tableIn (off := 39) (tgt := 40) hx hb dX4_boatTold_1 (by decide) (by decide) rfl (by decide) ?_
    refine lv_aload_n hx hb dX4_boatTold_40 rfl (lv_at hl 0 rfl) ?_
    refine lv_iload_n hx hb dX4_boatTold_41 rfl (lv_at hl 1 rfl) ?_
    refine lv_iconst (v := 0) hx hb dX4_boatTold_42 (by decide) ?_
    refine z_cVi (As := [.int (nI i), .int 0]) (rest := []) (k := 28) S hE hW (cX4_bo_ok l D n ad cy sa s.heap.size hn (enc al th) ex i (by omega) 0 (by omega)) (cwV 2 hts gX4_boatTold_X4_bo rfl rfl rfl (by decide +kernel) ⟨Nat.le_of_ble_eq_true rfl, Nat.le_of_ble_eq_true rfl⟩) (Nat.lt_of_lt_of_le (by decide) hn) cM_0 rfl rfl rfl hl.1 rfl (Nat.le_of_ble_eq_true rfl) dX4_boatTold_43 ⟨Nat.le_of_ble_eq_true rfl, Nat.le_of_ble_eq_true rfl⟩ (fun r _ H locs hp hW => ?_)
    subst hp
    refine z_top2 (y := al (24 + i) 0) (r_f (b := i) (k := 0) (by omega) (by decide)) ?_
    exact ze_i S hW hr hlk () rfl (by unfold v_boat; simp only [ix_nI (show i < 2 ^ 31 by omega)]; rw [if_pos (by decide)]) (Nat.le_of_ble_eq_true rfl) (Nat.le_of_ble_eq_true rfl) dX4_boatTold_46
  · refine lv_iload_n hx hb dX4_boatTold_0 rfl (lv_at hl 2 rfl) ?_
    refine lv_tableIn (off := 46) (tgt := 47) hx hb dX4_boatTold_1 (by decide) (by decide) rfl (by decide) ?_
    refine lv_aload_n hx hb dX4_boatTold_47 rfl (lv_at hl 0 rfl) ?_
    refine lv_iload_n hx hb dX4_boatTold_48 rfl (lv_at hl 1 rfl) ?_
    refine lv_iconst (v := 1) hx hb dX4_boatTold_49 (by decide) ?_
    refine z_cVi (As := [.int (nI i), .int 1]) (rest := []) (k := 28) S hE hW (cX4_bo_ok l D n ad cy sa s.heap.size hn (enc al th) ex i (by omega) 1 (by omega)) (cwV 2 hts gX4_boatTold_X4_bo rfl rfl rfl (by decide +kernel) ⟨Nat.le_of_ble_eq_true rfl, Nat.le_of_ble_eq_true rfl⟩) (Nat.lt_of_lt_of_le (by decide) hn) cM_0 rfl rfl rfl hl.1 rfl (Nat.le_of_ble_eq_true rfl) dX4_boatTold_50 ⟨Nat.le_of_ble_eq_true rfl, Nat.le_of_ble_eq_true rfl⟩ (fun r _ H locs hp hW => ?_)
    subst hp
    refine z_top2 (y := al (24 + i) 1) (r_f (b := i) (k := 1) (by omega) (by decide)) ?_
    exact ze_i S hW hr hlk () rfl (by unfold v_boat; simp only [ix_nI (show i < 2 ^ 31 by omega)]; rw [if_neg (by decide), if_pos (by decide)]) (Nat.le_of_ble_eq_true rfl) (Nat.le_of_ble_eq_true rfl) dX4_boatTold_53
  · refine lv_iload_n hx hb dX4_boatTold_0 rfl (lv_at hl 2 rfl) ?_
    refine lv_tableIn (off := 53) (tgt := 54) hx hb dX4_boatTold_1 (by decide) (by decide) rfl (by decide) ?_
    refine lv_aload_n hx hb dX4_boatTold_54 rfl (lv_at hl 0 rfl) ?_
    refine lv_iload_n hx hb dX4_boatTold_55 rfl (lv_at hl 1 rfl) ?_
    refine lv_iconst (v := 2) hx hb dX4_boatTold_56 (by decide) ?_
    refine z_cVi (As := [.int (nI i), .int 2]) (rest := []) (k := 28) S hE hW (cX4_bo_ok l D n ad cy sa s.heap.size hn (enc al th) ex i (by omega) 2 (by omega)) (cwV 2 hts gX4_boatTold_X4_bo rfl rfl rfl (by decide +kernel) ⟨Nat.le_of_ble_eq_true rfl, Nat.le_of_ble_eq_true rfl⟩) (Nat.lt_of_lt_of_le (by decide) hn) cM_0 rfl rfl rfl hl.1 rfl (Nat.le_of_ble_eq_true rfl) dX4_boatTold_57 ⟨Nat.le_of_ble_eq_true rfl, Nat.le_of_ble_eq_true rfl⟩ (fun r _ H locs hp hW => ?_)
    subst hp
    refine z_top2 (y := al (24 + i) 2) (r_f (b := i) (k := 2) (by omega) (by decide)) ?_
    exact ze_i S hW hr hlk () rfl (by unfold v_boat; simp only [ix_nI (show i < 2 ^ 31 by omega)]; rw [if_neg (by decide), if_neg (by decide), if_pos (by decide)]) (Nat.le_of_ble_eq_true rfl) (Nat.le_of_ble_eq_true rfl) dX4_boatTold_60
  · refine lv_iload_n hx hb dX4_boatTold_0 rfl (lv_at hl 2 rfl) ?_
    refine lv_tableIn (off := 60) (tgt := 61) hx hb dX4_boatTold_1 (by decide) (by decide) rfl (by decide) ?_
    refine lv_aload_n hx hb dX4_boatTold_61 rfl (lv_at hl 0 rfl) ?_
    refine lv_iload_n hx hb dX4_boatTold_62 rfl (lv_at hl 1 rfl) ?_
    refine lv_iconst (v := 1) hx hb dX4_boatTold_63 (by decide) ?_
    refine z_cVi (As := [.int (nI i), .int 1]) (rest := []) (k := 28) S hE hW (cX4_bo_ok l D n ad cy sa s.heap.size hn (enc al th) ex i (by omega) 1 (by omega)) (cwV 2 hts gX4_boatTold_X4_bo rfl rfl rfl (by decide +kernel) ⟨Nat.le_of_ble_eq_true rfl, Nat.le_of_ble_eq_true rfl⟩) (Nat.lt_of_lt_of_le (by decide) hn) cM_0 rfl rfl rfl hl.1 rfl (Nat.le_of_ble_eq_true rfl) dX4_boatTold_64 ⟨Nat.le_of_ble_eq_true rfl, Nat.le_of_ble_eq_true rfl⟩ (fun r _ H locs hp hW => ?_)
    subst hp
    refine z_top2 (y := al (24 + i) 1) (r_f (b := i) (k := 1) (by omega) (by decide)) ?_
    refine lv_aload_n hx hb dX4_boatTold_67 rfl (lv_at hl 0 rfl) ?_
    refine lv_iload_n hx hb dX4_boatTold_68 rfl (lv_at hl 1 rfl) ?_
    refine lv_iconst (v := 2) hx hb dX4_boatTold_69 (by decide) ?_
    refine z_cVi (As := [.int (nI i), .int 2]) (rest := [.int (al (24 + i) 1)]) (k := 28) S hE hW (cX4_bo_ok l D n ad cy sa H.size hn (enc al th) ex i (by omega) 2 (by omega)) (cwV 2 hts gX4_boatTold_X4_bo rfl rfl rfl (by decide +kernel) ⟨Nat.le_of_ble_eq_true rfl, Nat.le_of_ble_eq_true rfl⟩) (Nat.lt_of_lt_of_le (by decide) hn) cM_0 rfl rfl rfl hl.1 rfl (Nat.le_of_ble_eq_true rfl) dX4_boatTold_70 ⟨Nat.le_of_ble_eq_true rfl, Nat.le_of_ble_eq_true rfl⟩ (fun r _ H locs hp hW => ?_)
    subst hp
    refine z_top2 (y := al (24 + i) 2) (r_f (b := i) (k := 2) (by omega) (by decide)) ?_
    refine lv_isub hx hb dX4_boatTold_73 ?_
    exact ze_i S hW hr hlk () rfl (by unfold v_boat; simp only [ix_nI (show i < 2 ^ 31 by omega)]; rw [if_neg (by decide), if_neg (by decide), if_neg (by decide), if_pos (by decide)]) (Nat.le_of_ble_eq_true rfl) (Nat.le_of_ble_eq_true rfl) dX4_boatTold_74
  · refine lv_iload_n hx hb dX4_boatTold_0 rfl (lv_at hl 2 rfl) ?_
    refine lv_tableIn (off := 74) (tgt := 75) hx hb dX4_boatTold_1 (by decide) (by decide) rfl (by decide) ?_
    refine lv_aload_n hx hb dX4_boatTold_75 rfl (lv_at hl 0 rfl) ?_
    refine lv_iload_n hx hb dX4_boatTold_76 rfl (lv_at hl 1 rfl) ?_
    refine lv_iconst (v := 1) hx hb dX4_boatTold_77 (by decide) ?_
    refine z_cVi (As := [.int (nI i), .int 1]) (rest := []) (k := 28) S hE hW (cX4_bo_ok l D n ad cy sa s.heap.size hn (enc al th) ex i (by omega) 1 (by omega)) (cwV 2 hts gX4_boatTold_X4_bo rfl rfl rfl (by decide +kernel) ⟨Nat.le_of_ble_eq_true rfl, Nat.le_of_ble_eq_true rfl⟩) (Nat.lt_of_lt_of_le (by decide) hn) cM_0 rfl rfl rfl hl.1 rfl (Nat.le_of_ble_eq_true rfl) dX4_boatTold_78 ⟨Nat.le_of_ble_eq_true rfl, Nat.le_of_ble_eq_true rfl⟩ (fun r _ H locs hp hW => ?_)
    subst hp
    refine z_top2 (y := al (24 + i) 1) (r_f (b := i) (k := 1) (by omega) (by decide)) ?_
    refine lv_aload_n hx hb dX4_boatTold_81 rfl (lv_at hl 0 rfl) ?_
    refine lv_iload_n hx hb dX4_boatTold_82 rfl (lv_at hl 1 rfl) ?_
    refine lv_iconst (v := 2) hx hb dX4_boatTold_83 (by decide) ?_
    refine z_cVi (As := [.int (nI i), .int 2]) (rest := [.int (al (24 + i) 1)]) (k := 28) S hE hW (cX4_bo_ok l D n ad cy sa H.size hn (enc al th) ex i (by omega) 2 (by omega)) (cwV 2 hts gX4_boatTold_X4_bo rfl rfl rfl (by decide +kernel) ⟨Nat.le_of_ble_eq_true rfl, Nat.le_of_ble_eq_true rfl⟩) (Nat.lt_of_lt_of_le (by decide) hn) cM_0 rfl rfl rfl hl.1 rfl (Nat.le_of_ble_eq_true rfl) dX4_boatTold_84 ⟨Nat.le_of_ble_eq_true rfl, Nat.le_of_ble_eq_true rfl⟩ (fun r _ H locs hp hW => ?_)
    subst hp
    refine z_top2 (y := al (24 + i) 2) (r_f (b := i) (k := 2) (by omega) (by decide)) ?_
    refine z_pS (As := [.int (al (24 + i) 1), .int (al (24 + i) 2)]) (rest := []) S hE hW (cX4_depth_ok l (al (24 + i) 1) (al (24 + i) 2)) (va_cwS 2 hts gX4_boatTold_X4_depth rfl rfl rfl (by decide +kernel) ⟨Nat.le_of_ble_eq_true rfl, Nat.le_of_ble_eq_true rfl⟩) rfl hl.1 rfl (Nat.le_of_ble_eq_true rfl) dX4_boatTold_87 ⟨Nat.le_of_ble_eq_true rfl, Nat.le_of_ble_eq_true rfl⟩ (fun H locs hW => ?_)
    exact ze_i S hW hr hlk () rfl (by unfold v_boat; simp only [ix_nI (show i < 2 ^ 31 by omega)]; rw [if_neg (by decide), if_neg (by decide), if_neg (by decide), if_neg (by decide), if_pos (by decide)]) (Nat.le_of_ble_eq_true rfl) (Nat.le_of_ble_eq_true rfl) dX4_boatTold_90
  · refine lv_iload_n hx hb dX4_boatTold_0 rfl (lv_at hl 2 rfl) ?_
    refine lv_tableIn (off := 90) (tgt := 91) hx hb dX4_boatTold_1 (by decide) (by decide) rfl (by decide) ?_
    refine lv_aload_n hx hb dX4_boatTold_91 rfl (lv_at hl 0 rfl) ?_
    refine lv_iload_n hx hb dX4_boatTold_92 rfl (lv_at hl 1 rfl) ?_
    refine z_cVi (As := [.int (nI i)]) (rest := []) (k := 28) S hE hW (cX4_canSail_ok l D n ad cy sa s.heap.size hn al th ex i (by omega)) (cwV 1 hts gX4_boatTold_X4_canSail rfl rfl rfl (by decide +kernel) ⟨Nat.le_of_ble_eq_true rfl, Nat.le_of_ble_eq_true rfl⟩) (Nat.lt_of_lt_of_le (by decide) hn) cM_0 rfl rfl rfl hl.1 rfl (Nat.le_of_ble_eq_true rfl) dX4_boatTold_93 ⟨Nat.le_of_ble_eq_true rfl, Nat.le_of_ble_eq_true rfl⟩ (fun r _ H locs hp hW => ?_)
    subst hp
    refine lv_if_eq (tgt := 103) hx hb dX4_boatTold_96 (by decide) (fun c96 => ?_) (fun c96 => ?_)
    · have c96 := zb_f c96
      refine lv_iconst (v := 0) hx hb dX4_boatTold_103 (by decide) ?_
      exact ze_i S hW hr hlk () rfl (by unfold v_boat; simp only [ix_nI (show i < 2 ^ 31 by omega)]; rw [if_neg (by decide), if_neg (by decide), if_neg (by decide), if_neg (by decide), if_neg (by decide), if_pos (by decide)]; exact (if_neg c96).symm) (Nat.le_of_ble_eq_true rfl) (Nat.le_of_ble_eq_true rfl) dX4_boatTold_104
    · have c96 := zb_t c96
      refine lv_iconst (v := 1) hx hb dX4_boatTold_99 (by decide) ?_
      refine lv_goto (tgt := 104) hx hb dX4_boatTold_100 (by decide) ?_
      exact ze_i S hW hr hlk () rfl (by unfold v_boat; simp only [ix_nI (show i < 2 ^ 31 by omega)]; rw [if_neg (by decide), if_neg (by decide), if_neg (by decide), if_neg (by decide), if_neg (by decide), if_pos (by decide)]; exact (if_pos c96).symm) (Nat.le_of_ble_eq_true rfl) (Nat.le_of_ble_eq_true rfl) dX4_boatTold_104
  · refine lv_iload_n hx hb dX4_boatTold_0 rfl (lv_at hl 2 rfl) ?_
    refine lv_tableOut (tgt := 105) hx hb dX4_boatTold_1 (by decide) (by decide) ?_
    refine lv_aload_n hx hb dX4_boatTold_105 rfl (lv_at hl 0 rfl) ?_
    refine lv_iload_n hx hb dX4_boatTold_106 rfl (lv_at hl 1 rfl) ?_
    refine lv_iconst (v := 0) hx hb dX4_boatTold_107 (by decide) ?_
    refine z_cVi (As := [.int (nI i), .int 0]) (rest := []) (k := 28) S hE hW (cX4_bo_ok l D n ad cy sa s.heap.size hn (enc al th) ex i (by omega) 0 (by omega)) (cwV 2 hts gX4_boatTold_X4_bo rfl rfl rfl (by decide +kernel) ⟨Nat.le_of_ble_eq_true rfl, Nat.le_of_ble_eq_true rfl⟩) (Nat.lt_of_lt_of_le (by decide) hn) cM_0 rfl rfl rfl hl.1 rfl (Nat.le_of_ble_eq_true rfl) dX4_boatTold_108 ⟨Nat.le_of_ble_eq_true rfl, Nat.le_of_ble_eq_true rfl⟩ (fun r _ H locs hp hW => ?_)
    subst hp
    refine z_top2 (y := al (24 + i) 0) (r_f (b := i) (k := 0) (by omega) (by decide)) ?_
    refine lv_aload_n hx hb dX4_boatTold_111 rfl (lv_at hl 0 rfl) ?_
    refine lv_iload_n hx hb dX4_boatTold_112 rfl (lv_at hl 1 rfl) ?_
    refine z_cVi (As := [.int (nI i)]) (rest := [.int (al (24 + i) 0)]) (k := 28) S hE hW (cX4_all_ok l D n ad cy sa H.size hn al th ex i (by omega)) (cwV 1 hts gX4_boatTold_X4_all rfl rfl rfl (by decide +kernel) ⟨Nat.le_of_ble_eq_true rfl, Nat.le_of_ble_eq_true rfl⟩) (Nat.lt_of_lt_of_le (by decide) hn) cM_0 rfl rfl rfl hl.1 rfl (Nat.le_of_ble_eq_true rfl) dX4_boatTold_113 ⟨Nat.le_of_ble_eq_true rfl, Nat.le_of_ble_eq_true rfl⟩ (fun r _ H locs hp hW => ?_)
    subst hp
    refine lv_isub hx hb dX4_boatTold_116 ?_
    exact ze_i S hW hr hlk () rfl (by unfold v_boat; simp only [ix_nI (show i < 2 ^ 31 by omega)]; rw [if_neg (by decide), if_neg (by decide), if_neg (by decide), if_neg (by decide), if_neg (by decide), if_neg (by decide)]; exact z_sub2 _ _ _) (Nat.le_of_ble_eq_true rfl) (Nat.le_of_ble_eq_true rfl) dX4_boatTold_117
set_option maxHeartbeats 4000000 in
set_option maxRecDepth 100000 in
theorem cX4_counted_ok (l : Launch) (D : va_G) (n : Nat) (ad cy sa : Nat → Nat) (sz : Nat) (hn : 35 ≤ n) (al : Nat → Nat → Int32) (th : Int32) (ex : Nat → va_E) (N : Nat) (hN : al 0 4 = nI N) (hN6 : N ≤ 6) (h : Nat) (hh : al 0 8 = nI h) (hh3 : h < 2 ^ 31) (q : Nat) (hq : q < 9) : Met l yX4_counted wsX4_counted ({ frames := 2, cells := 0, slots := 0, locals := 44 }) (PW D n ad cy sa sz (cM cy ad (enc al th) ex) [.ref (ad 28), .int (nI q)]) (QDi D n ad sz (v_count al (nI q)) (cM cy ad (enc al th) ex)) 0 0 (Acc n ad sz) := by
  refine zs_met (cc := cX4_counted) (maxL := 7) (ret := (some .int)) (own := RX4) (by decide) rfl rfl (Nat.le_of_ble_eq_true rfl) ?_
  intro p e s m args below meth c ls S hE hW hr hlk hsz hav hl
  subst hsz
  have hx := S.1
  have hb := S.2.1
  have hown := S.2.2.2.1
  have hts := S.2.2.2.2
  have hl : lv_has ls 7 [(0, .ref (ad 28)), (1, .int (nI q))] := hl
  have f25 := hts (.fieldLink RX4 25 "PumiceSledgeModel" "numbers" "[I") (by decide +kernel)
  have hi4 : ∀ w ∈ wsX40, w ∈ wsX4_counted := by decide +kernel
  have f32 := hts (.fieldLink RX4 32 "PumiceSledgeModel" "sledges" "I") (by decide +kernel)
  have f39 := hts (.fieldLink RX4 39 "PumiceSledgeModel" "boats" "I") (by decide +kernel)
  have f9 := hts (.fieldLink RX4 9 "PumiceSledgeModel" "stones" "[I") (by decide +kernel)
  rcases (show q = 0 ∨ q = 1 ∨ q = 2 ∨ q = 3 ∨ q = 4 ∨ q = 5 ∨ q = 6 ∨ q = 7 ∨ q = 8 by omega) with rfl | rfl | rfl | rfl | rfl | rfl | rfl | rfl | rfl
  · refine lv_iconst (v := 0) hx hb dX4_counted_0 (by decide) ?_
    refine lv_istore_n (lv' := [(2, .int 0), (0, .ref (ad 28)), (1, .int 0)]) hx hb dX4_counted_1 rfl hl (by decide) rfl (fun ls hl => ?_)
    refine lv_iload_n hx hb dX4_counted_2 rfl (lv_at hl 2 rfl) ?_
    refine lv_tableIn (off := 45) (tgt := 48) hx hb dX4_counted_3 (by decide) (by decide) rfl (by decide) ?_
    refine lv_aload_n hx hb dX4_counted_48 rfl (lv_at hl 1 rfl) ?_
    refine z_get (C := RX4) (T := TX4) (N := 9) (ci := 4) S hE hW hi4 rfl (Nat.lt_of_lt_of_le (by decide) hn) cM_0 8 (by decide) rfl f25 (v := .ref (ad 34)) rfl dX4_counted_49 ?_
    refine lv_iconst (v := 0) hx hb dX4_counted_52 (by decide) ?_
    refine z_ald S hE hW (Nat.lt_of_lt_of_le (by decide) hn) cM_6 0 rfl (by decide) (by decide) (v := al 0 8) (r_m0) dX4_counted_53 ?_
    exact ze_i S hW hr hlk () rfl (by unfold v_count; rw [if_pos (by decide)]) (Nat.le_of_ble_eq_true rfl) (Nat.le_of_ble_eq_true rfl) dX4_counted_54
  · refine lv_iconst (v := 0) hx hb dX4_counted_0 (by decide) ?_
    refine lv_istore_n (lv' := [(2, .int 0), (0, .ref (ad 28)), (1, .int 1)]) hx hb dX4_counted_1 rfl hl (by decide) rfl (fun ls hl => ?_)
    refine lv_iload_n hx hb dX4_counted_2 rfl (lv_at hl 2 rfl) ?_
    refine lv_tableIn (off := 52) (tgt := 55) hx hb dX4_counted_3 (by decide) (by decide) rfl (by decide) ?_
    refine lv_aload_n hx hb dX4_counted_55 rfl (lv_at hl 1 rfl) ?_
    refine z_cVi (As := []) (rest := []) (k := 28) S hE hW (cX4_gust_ok l D n ad cy sa s.heap.size hn al th ex h (hh) (by omega)) (cwV 0 hts gX4_counted_X4_gust rfl rfl rfl (by decide +kernel) ⟨Nat.le_of_ble_eq_true rfl, Nat.le_of_ble_eq_true rfl⟩) (Nat.lt_of_lt_of_le (by decide) hn) cM_0 rfl rfl rfl hl.1 rfl (Nat.le_of_ble_eq_true rfl) dX4_counted_56 ⟨Nat.le_of_ble_eq_true rfl, Nat.le_of_ble_eq_true rfl⟩ (fun r _ H locs hp hW => ?_)
    subst hp
    exact ze_i S hW hr hlk () rfl (by unfold v_count; rw [if_neg (by decide), if_pos (by decide), hh, ix_nI (show h < 2 ^ 31 by omega)]) (Nat.le_of_ble_eq_true rfl) (Nat.le_of_ble_eq_true rfl) dX4_counted_59
  · refine lv_iconst (v := 0) hx hb dX4_counted_0 (by decide) ?_
    refine lv_istore_n (lv' := [(2, .int 0), (0, .ref (ad 28)), (1, .int 2)]) hx hb dX4_counted_1 rfl hl (by decide) rfl (fun ls hl => ?_)
    refine lv_iload_n hx hb dX4_counted_2 rfl (lv_at hl 2 rfl) ?_
    refine lv_tableIn (off := 57) (tgt := 60) hx hb dX4_counted_3 (by decide) (by decide) rfl (by decide) ?_
    refine lv_aload_n hx hb dX4_counted_60 rfl (lv_at hl 1 rfl) ?_
    refine z_get (C := RX4) (T := TX4) (N := 9) (ci := 4) S hE hW hi4 rfl (Nat.lt_of_lt_of_le (by decide) hn) cM_0 1 (by decide) rfl f32 (v := .int (al 0 4)) (congrArg (fun z => some (Value.int z)) (r_n)) dX4_counted_61 ?_
    exact ze_i S hW hr hlk () rfl (by unfold v_count; rw [if_neg (by decide), if_neg (by decide), if_pos (by decide)]) (Nat.le_of_ble_eq_true rfl) (Nat.le_of_ble_eq_true rfl) dX4_counted_64
  · refine lv_iconst (v := 0) hx hb dX4_counted_0 (by decide) ?_
    refine lv_istore_n (lv' := [(2, .int 0), (0, .ref (ad 28)), (1, .int 3)]) hx hb dX4_counted_1 rfl hl (by decide) rfl (fun ls hl => ?_)
    refine lv_iload_n hx hb dX4_counted_2 rfl (lv_at hl 2 rfl) ?_
    refine lv_tableIn (off := 62) (tgt := 65) hx hb dX4_counted_3 (by decide) (by decide) rfl (by decide) ?_
    refine lv_aload_n hx hb dX4_counted_65 rfl (lv_at hl 1 rfl) ?_
    refine z_get (C := RX4) (T := TX4) (N := 9) (ci := 4) S hE hW hi4 rfl (Nat.lt_of_lt_of_le (by decide) hn) cM_0 2 (by decide) rfl f39 (v := .int (al 0 6)) (congrArg (fun z => some (Value.int z)) (r_b)) dX4_counted_66 ?_
    exact ze_i S hW hr hlk () rfl (by unfold v_count; rw [if_neg (by decide), if_neg (by decide), if_neg (by decide), if_pos (by decide)]) (Nat.le_of_ble_eq_true rfl) (Nat.le_of_ble_eq_true rfl) dX4_counted_69
  · refine lv_iconst (v := 0) hx hb dX4_counted_0 (by decide) ?_
    refine lv_istore_n (lv' := [(2, .int 0), (0, .ref (ad 28)), (1, .int 4)]) hx hb dX4_counted_1 rfl hl (by decide) rfl (fun ls hl => ?_)
    refine lv_iload_n hx hb dX4_counted_2 rfl (lv_at hl 2 rfl) ?_
    refine lv_tableIn (off := 67) (tgt := 70) hx hb dX4_counted_3 (by decide) (by decide) rfl (by decide) ?_
    refine lv_aload_n hx hb dX4_counted_70 rfl (lv_at hl 1 rfl) ?_
    refine z_get (C := RX4) (T := TX4) (N := 9) (ci := 4) S hE hW hi4 rfl (Nat.lt_of_lt_of_le (by decide) hn) cM_0 8 (by decide) rfl f25 (v := .ref (ad 34)) rfl dX4_counted_71 ?_
    refine lv_iconst (v := 1) hx hb dX4_counted_74 (by decide) ?_
    refine z_ald S hE hW (Nat.lt_of_lt_of_le (by decide) hn) cM_6 1 rfl (by decide) (by decide) (v := al 0 9) (r_m1) dX4_counted_75 ?_
    exact ze_i S hW hr hlk () rfl (by unfold v_count; rw [if_neg (by decide), if_neg (by decide), if_neg (by decide), if_neg (by decide), if_pos (by decide)]) (Nat.le_of_ble_eq_true rfl) (Nat.le_of_ble_eq_true rfl) dX4_counted_76
  · refine lv_iconst (v := 0) hx hb dX4_counted_0 (by decide) ?_
    refine lv_istore_n (lv' := [(2, .int 0), (0, .ref (ad 28)), (1, .int 5)]) hx hb dX4_counted_1 rfl hl (by decide) rfl (fun ls hl => ?_)
    refine lv_iload_n hx hb dX4_counted_2 rfl (lv_at hl 2 rfl) ?_
    refine lv_tableIn (off := 74) (tgt := 77) hx hb dX4_counted_3 (by decide) (by decide) rfl (by decide) ?_
    refine lv_aload_n hx hb dX4_counted_77 rfl (lv_at hl 1 rfl) ?_
    refine z_cVi (As := []) (rest := []) (k := 28) S hE hW (cX4_aboard_ok l D n ad cy sa s.heap.size hn al th ex N (hN) hN6) (cwV 0 hts gX4_counted_X4_aboard rfl rfl rfl (by decide +kernel) ⟨Nat.le_of_ble_eq_true rfl, Nat.le_of_ble_eq_true rfl⟩) (Nat.lt_of_lt_of_le (by decide) hn) cM_0 rfl rfl rfl hl.1 rfl (Nat.le_of_ble_eq_true rfl) dX4_counted_78 ⟨Nat.le_of_ble_eq_true rfl, Nat.le_of_ble_eq_true rfl⟩ (fun r _ H locs hp hW => ?_)
    subst hp
    exact ze_i S hW hr hlk () rfl (by unfold v_count; rw [if_neg (by decide), if_neg (by decide), if_neg (by decide), if_neg (by decide), if_neg (by decide), if_pos (by decide), hN, ix_nI (show N < 2 ^ 31 by omega)]) (Nat.le_of_ble_eq_true rfl) (Nat.le_of_ble_eq_true rfl) dX4_counted_81
  · refine lv_iconst (v := 0) hx hb dX4_counted_0 (by decide) ?_
    refine lv_istore_n (lv' := [(2, .int 0), (0, .ref (ad 28)), (1, .int 6)]) hx hb dX4_counted_1 rfl hl (by decide) rfl (fun ls hl => ?_)
    refine lv_iload_n hx hb dX4_counted_2 rfl (lv_at hl 2 rfl) ?_
    refine lv_tableIn (off := 79) (tgt := 82) hx hb dX4_counted_3 (by decide) (by decide) rfl (by decide) ?_
    refine lv_aload_n hx hb dX4_counted_82 rfl (lv_at hl 1 rfl) ?_
    refine z_cVi (As := []) (rest := []) (k := 28) S hE hW (cX4_ashore_ok l D n ad cy sa s.heap.size hn al th ex ) (cwV 0 hts gX4_counted_X4_ashore rfl rfl rfl (by decide +kernel) ⟨Nat.le_of_ble_eq_true rfl, Nat.le_of_ble_eq_true rfl⟩) (Nat.lt_of_lt_of_le (by decide) hn) cM_0 rfl rfl rfl hl.1 rfl (Nat.le_of_ble_eq_true rfl) dX4_counted_83 ⟨Nat.le_of_ble_eq_true rfl, Nat.le_of_ble_eq_true rfl⟩ (fun r _ H locs hp hW => ?_)
    subst hp
    exact ze_i S hW hr hlk () rfl (by unfold v_count; rw [if_neg (by decide), if_neg (by decide), if_neg (by decide), if_neg (by decide), if_neg (by decide), if_neg (by decide), if_pos (by decide)]) (Nat.le_of_ble_eq_true rfl) (Nat.le_of_ble_eq_true rfl) dX4_counted_86
  · refine lv_iconst (v := 0) hx hb dX4_counted_0 (by decide) ?_
    refine lv_istore_n (lv' := [(2, .int 0), (0, .ref (ad 28)), (1, .int 7)]) hx hb dX4_counted_1 rfl hl (by decide) rfl (fun ls hl => ?_)
    refine lv_iload_n hx hb dX4_counted_2 rfl (lv_at hl 2 rfl) ?_
    refine lv_tableIn (off := 84) (tgt := 87) hx hb dX4_counted_3 (by decide) (by decide) rfl (by decide) ?_
    refine lv_aload_n hx hb dX4_counted_87 rfl (lv_at hl 1 rfl) ?_
    refine z_get (C := RX4) (T := TX4) (N := 9) (ci := 4) S hE hW hi4 rfl (Nat.lt_of_lt_of_le (by decide) hn) cM_0 8 (by decide) rfl f25 (v := .ref (ad 34)) rfl dX4_counted_88 ?_
    refine lv_iconst (v := 2) hx hb dX4_counted_91 (by decide) ?_
    refine z_ald S hE hW (Nat.lt_of_lt_of_le (by decide) hn) cM_6 2 rfl (by decide) (by decide) (v := al (6 + 0) 1) (r_m2) dX4_counted_92 ?_
    exact ze_i S hW hr hlk () rfl (by unfold v_count; rw [if_neg (by decide), if_neg (by decide), if_neg (by decide), if_neg (by decide), if_neg (by decide), if_neg (by decide), if_neg (by decide), if_pos (by decide)]) (Nat.le_of_ble_eq_true rfl) (Nat.le_of_ble_eq_true rfl) dX4_counted_93
  · refine lv_iconst (v := 0) hx hb dX4_counted_0 (by decide) ?_
    refine lv_istore_n (lv' := [(2, .int 0), (0, .ref (ad 28)), (1, .int 8)]) hx hb dX4_counted_1 rfl hl (by decide) rfl (fun ls hl => ?_)
    refine lv_iload_n hx hb dX4_counted_2 rfl (lv_at hl 2 rfl) ?_
    refine lv_tableOut (tgt := 94) hx hb dX4_counted_3 (by decide) (by decide) ?_
    refine lv_aload_n hx hb dX4_counted_94 rfl (lv_at hl 1 rfl) ?_
    refine z_get (C := RX4) (T := TX4) (N := 9) (ci := 4) S hE hW hi4 rfl (Nat.lt_of_lt_of_le (by decide) hn) cM_0 3 (by decide) rfl f9 (v := .ref (ad 29)) rfl dX4_counted_95 ?_
    refine lv_astore_n (lv' := [(3, .ref (ad 29)), (2, .int 0), (0, .ref (ad 28)), (1, .int 8)]) hx hb dX4_counted_98 rfl hl (by decide) rfl (fun ls hl => ?_)
    refine lv_aload_n hx hb dX4_counted_99 rfl (lv_at hl 0 rfl) ?_
    refine z_alen S hE hW (Nat.lt_of_lt_of_le (by decide) hn) cM_1 (v := 5) (by decide) dX4_counted_100 ?_
    refine lv_istore (lv' := [(4, .int 5), (3, .ref (ad 29)), (2, .int 0), (0, .ref (ad 28)), (1, .int 8)]) hx hb dX4_counted_101 hl (by decide) rfl (fun ls hl => ?_)
    refine lv_iconst (v := 0) hx hb dX4_counted_103 (by decide) ?_
    refine lv_istore (lv' := [(5, .int 0), (4, .int 5), (3, .ref (ad 29)), (2, .int 0), (0, .ref (ad 28)), (1, .int 8)]) hx hb dX4_counted_104 hl (by decide) rfl (fun ls hl => ?_)
    have L106 : ∀ (kq j : Nat) (H : Heap) (locs : List Loc) (ls : Array Slot), j + kq = 5 → WS D n ad (cM cy ad (enc al th) ex) (Acc n ad s.heap.size) s.heap H locs → lv_has ls 7 [(0, .ref (ad 28)), (1, .int 8), (2, .int (sumI (al 1) j)), (3, .ref (ad 29)), (4, .int 5), (5, .int (nI j))] → W p l e { frames := 2, cells := 0, slots := 0, locals := 44 } s m args below meth c H locs 0 0 (MQ below (QDi D n ad s.heap.size (v_count al (nI 8)) (cM cy ad (enc al th) ex)) args s 0 0 (Acc n ad s.heap.size)) (F0 m 106 ls []) := by
      intro kq
      induction kq with
      | zero =>
        intro j H locs ls hjk hW hl
        have hjN : j = 5 := by omega
        try rw [hjN] at hW
        try rw [hjN] at hl
        refine lv_iload hx hb dX4_counted_106 (lv_at hl 5 rfl) ?_
        refine lv_iload hx hb dX4_counted_108 (lv_at hl 4 rfl) ?_
        refine lv_icmp_ge (tgt := 130) hx hb dX4_counted_110 (by decide) (fun _ => ?_) (fun h => absurd (by decide) h)
        refine lv_iload_n hx hb dX4_counted_130 rfl (lv_at hl 2 rfl) ?_
        exact ze_i S hW hr hlk () rfl (by unfold v_count; rw [if_neg (by decide), if_neg (by decide), if_neg (by decide), if_neg (by decide), if_neg (by decide), if_neg (by decide), if_neg (by decide), if_neg (by decide)]) (Nat.le_of_ble_eq_true rfl) (Nat.le_of_ble_eq_true rfl) dX4_counted_131
      | succ kq ih =>
        intro j H locs ls hjk hW hl
        have hj : j < 5 := by omega
        refine lv_iload hx hb dX4_counted_106 (lv_at hl 5 rfl) ?_
        refine lv_iload hx hb dX4_counted_108 (lv_at hl 4 rfl) ?_
        refine lv_icmp_ge (tgt := 130) hx hb dX4_counted_110 (by decide) (fun h => absurd h (nI_ge (b := 5) hj (by decide))) (fun _ => ?_)
        refine lv_aload_n hx hb dX4_counted_113 rfl (lv_at hl 3 rfl) ?_
        refine lv_iload hx hb dX4_counted_114 (lv_at hl 5 rfl) ?_
        refine z_ald S hE hW (Nat.lt_of_lt_of_le (by decide) hn) cM_1 j rfl (by omega) (by decide) (v := al 1 j) (r_st) dX4_counted_116 ?_
        refine lv_istore (lv' := [(6, .int (al 1 j)), (0, .ref (ad 28)), (1, .int 8), (2, .int (sumI (al 1) j)), (3, .ref (ad 29)), (4, .int 5), (5, .int (nI j))]) hx hb dX4_counted_117 hl (by decide) rfl (fun ls hl => ?_)
        refine lv_iload_n hx hb dX4_counted_119 rfl (lv_at hl 3 rfl) ?_
        refine lv_iload hx hb dX4_counted_120 (lv_at hl 0 rfl) ?_
        refine lv_iadd hx hb dX4_counted_122 ?_
        refine lv_istore_n (lv' := [(2, .int (sumI (al 1) j + al 1 j)), (6, .int (al 1 j)), (0, .ref (ad 28)), (1, .int 8), (3, .ref (ad 29)), (4, .int 5), (5, .int (nI j))]) hx hb dX4_counted_123 rfl hl (by decide) rfl (fun ls hl => ?_)
        refine lv_iinc (v := nI (j + 1)) (lv' := [(5, .int (nI (j + 1))), (2, .int (sumI (al 1) j + al 1 j)), (6, .int (al 1 j)), (0, .ref (ad 28)), (1, .int 8), (3, .ref (ad 29)), (4, .int 5)]) hx hb dX4_counted_124 hl (k := 6) rfl (nI_1 _) (by decide) rfl (fun ls hl => ?_)
        refine lv_goto (tgt := 106) hx hb dX4_counted_127 (by decide) ?_
        exact ih (j + 1) H locs ls (by omega) hW (lv_sub hl [3, 4, 1, 5, 6, 0] rfl)
    exact L106 (5) 0 _ _ ls (by omega) hW (lv_sub hl [4, 5, 3, 2, 1, 0] rfl)
