/-! The law's own small methods of numbers. -/
def blw (v n : Int32) : Int32 := (v &&& 2147483647) - (v &&& 2147483647) / n * n
def blN (v : Int32) (k : Nat) : Nat := ix (blw v (nI k))
theorem bl_pos (v : Int32) : ¬ (v &&& 2147483647) < 0 := by
  intro h
  rw [Int32.lt_iff_toInt_lt] at h
  have h1 : (v &&& 2147483647 : Int32).toBitVec.msb = false := by
    rw [Int32.toBitVec_and, BitVec.msb_and]
    have : ((2147483647 : Int32).toBitVec).msb = false := by decide
    rw [this, Bool.and_false]
  have h3 : (v &&& 2147483647 : Int32).toInt = ((v &&& 2147483647 : Int32).toBitVec.toNat : Int) := by
    show (v &&& 2147483647 : Int32).toBitVec.toInt = _
    rw [BitVec.toInt_eq_msb_cond, h1]
    rfl
  rw [h3, Int32.toInt_zero] at h
  omega
theorem blN_s {v : Int32} {k : Nat} (h0 : 0 < k) (hk : k < 2 ^ 31) : blw v (nI k) = nI (blN v k) ∧ blN v k < k := by
  obtain ⟨j, hj, e⟩ := nI_of (bl_pos v)
  unfold blN blw
  rw [e, pk_rem hj h0 hk, ix_nI (Nat.lt_trans (Nat.mod_lt _ h0) hk)]
  exact ⟨rfl, Nat.mod_lt _ h0⟩
theorem blN_e {v w : Int32} {k : Nat} (hw : w = nI k) (h0 : 0 < k) (hk : k < 2 ^ 31) : blw v w = nI (blN v k) := by
  rw [hw]
  exact (blN_s h0 hk).1
theorem blN_lt {v : Int32} {k : Nat} (h0 : 0 < k) (hk : k < 2 ^ 31) : blN v k < k := (blN_s h0 hk).2
def stL (k : Int32) : Int32 := 80 - 30 * k
def depL (f a : Int32) : Int32 := (f + a) / 50 + (if f ≤ a then a - f else f - a) / 40

theorem kl_0 {x : Int32} (c3 : ¬ x ≤ 60) : (0 : Int32) = knd x := by
  have h6 : (60 : Int32) < x := Int32.not_le.mp c3
  have h : (30 : Int32) < x := Int32.lt_trans (by decide) h6
  unfold knd
  rw [if_pos h, if_pos h6]
theorem kl_1 {x : Int32} (c3 : x ≤ 60) (c13 : ¬ x ≤ 30) : (1 : Int32) = knd x := by
  unfold knd
  rw [if_pos (Int32.not_le.mp c13), if_neg (Int32.not_lt.mpr c3)]
theorem kl_2 {x : Int32} (c3 : x ≤ 60) (c13 : x ≤ 30) : (2 : Int32) = knd x := by
  unfold knd
  rw [if_neg (Int32.not_lt.mpr c13)]

set_option maxHeartbeats 4000000 in
set_option maxRecDepth 100000 in
theorem cL_below_ok (l : Launch) (v n : Int32) (hne : ¬ n = 0) : Met l yL_below wsL_below ({ frames := 0, cells := 0, slots := 0, locals := 0 }) (va_Pc [.int v, .int n] (fun _ => True)) (QP (blw v n)) 0 0 (fun _ => False) := by
  refine zs_pure (cc := cL_below) (maxL := 2) (ret := (some .int)) (own := RL) (by decide) rfl rfl (Nat.le_of_ble_eq_true rfl) ?_
  intro p e s m args below meth c ls S hr hlk hav hl
  have hx := S.1
  have hb := S.2.1
  have hown := S.2.2.2.1
  have hts := S.2.2.2.2
  have hl : lv_has ls 2 [(0, .int v), (1, .int n)] := hl
  have k7 := hts (.constant RL 7 2147483647) (by decide +kernel)
  refine lv_iload_n hx hb dL_below_0 rfl (lv_at hl 0 rfl) ?_
  refine lv_ldc hx hb hown k7 dL_below_1 ?_
  refine lv_iand hx hb dL_below_3 ?_
  refine lv_iload_n hx hb dL_below_4 rfl (lv_at hl 1 rfl) ?_
  refine lv_irem hx hb dL_below_5 hne ?_
  exact ze_p S hr hlk (rfl) dL_below_6

set_option maxHeartbeats 4000000 in
set_option maxRecDepth 100000 in
theorem cL_kind_ok (l : Launch) (x : Int32) : Met l yL_kind wsL_kind ({ frames := 0, cells := 0, slots := 0, locals := 0 }) (va_Pc [.int x] (fun _ => True)) (QP (knd x)) 0 0 (fun _ => False) := by
  refine zs_pure (cc := cL_kind) (maxL := 1) (ret := (some .int)) (own := RL) (by decide) rfl rfl (Nat.le_of_ble_eq_true rfl) ?_
  intro p e s m args below meth c ls S hr hlk hav hl
  have hx := S.1
  have hb := S.2.1
  have hown := S.2.2.2.1
  have hts := S.2.2.2.2
  have hl : lv_has ls 1 [(0, .int x)] := hl
  refine lv_iload_n hx hb dL_kind_0 rfl (lv_at hl 0 rfl) ?_
  refine lv_bipush (v := 60) hx hb dL_kind_1 (by decide) ?_
  refine lv_icmp_le (tgt := 10) hx hb dL_kind_3 (by decide) (fun c3 => ?_) (fun c3 => ?_)
  · refine lv_iload_n hx hb dL_kind_10 rfl (lv_at hl 0 rfl) ?_
    refine lv_bipush (v := 30) hx hb dL_kind_11 (by decide) ?_
    refine lv_icmp_le (tgt := 20) hx hb dL_kind_13 (by decide) (fun c13 => ?_) (fun c13 => ?_)
    · refine lv_iconst (v := 2) hx hb dL_kind_20 (by decide) ?_
      exact ze_p S hr hlk (kl_2 c3 c13) dL_kind_21
    · refine lv_iconst (v := 1) hx hb dL_kind_16 (by decide) ?_
      refine lv_goto (tgt := 21) hx hb dL_kind_17 (by decide) ?_
      exact ze_p S hr hlk (kl_1 c3 c13) dL_kind_21
  · refine lv_iconst (v := 0) hx hb dL_kind_6 (by decide) ?_
    refine lv_goto (tgt := 21) hx hb dL_kind_7 (by decide) ?_
    exact ze_p S hr hlk (kl_0 c3) dL_kind_21

set_option maxHeartbeats 4000000 in
set_option maxRecDepth 100000 in
theorem cL_stowed_ok (l : Launch) (x : Int32) : Met l yL_stowed wsL_stowed ({ frames := 0, cells := 0, slots := 0, locals := 0 }) (va_Pc [.int x] (fun _ => True)) (QP (stL x)) 0 0 (fun _ => False) := by
  refine zs_pure (cc := cL_stowed) (maxL := 1) (ret := (some .int)) (own := RL) (by decide) rfl rfl (Nat.le_of_ble_eq_true rfl) ?_
  intro p e s m args below meth c ls S hr hlk hav hl
  have hx := S.1
  have hb := S.2.1
  have hown := S.2.2.2.1
  have hts := S.2.2.2.2
  have hl : lv_has ls 1 [(0, .int x)] := hl
  refine lv_bipush (v := 80) hx hb dL_stowed_0 (by decide) ?_
  refine lv_bipush (v := 30) hx hb dL_stowed_2 (by decide) ?_
  refine lv_iload_n hx hb dL_stowed_4 rfl (lv_at hl 0 rfl) ?_
  refine lv_imul hx hb dL_stowed_5 ?_
  refine lv_isub hx hb dL_stowed_6 ?_
  exact ze_p S hr hlk (rfl) dL_stowed_7

set_option maxHeartbeats 4000000 in
set_option maxRecDepth 100000 in
theorem cX4_depth_ok (l : Launch) (f a : Int32) : Met l yX4_depth wsX4_depth ({ frames := 0, cells := 0, slots := 0, locals := 0 }) (va_Pc [.int f, .int a] (fun _ => True)) (QP (depL f a)) 0 0 (fun _ => False) := by
  refine zs_pure (cc := cX4_depth) (maxL := 2) (ret := (some .int)) (own := RX4) (by decide) rfl rfl (Nat.le_of_ble_eq_true rfl) ?_
  intro p e s m args below meth c ls S hr hlk hav hl
  have hx := S.1
  have hb := S.2.1
  have hown := S.2.2.2.1
  have hts := S.2.2.2.2
  have hl : lv_has ls 2 [(0, .int f), (1, .int a)] := hl
  refine lv_iload_n hx hb dX4_depth_0 rfl (lv_at hl 0 rfl) ?_
  refine lv_iload_n hx hb dX4_depth_1 rfl (lv_at hl 1 rfl) ?_
  refine lv_iadd hx hb dX4_depth_2 ?_
  refine lv_bipush (v := 50) hx hb dX4_depth_3 (by decide) ?_
  refine lv_idiv hx hb dX4_depth_5 (by decide) ?_
  refine lv_iload_n hx hb dX4_depth_6 rfl (lv_at hl 0 rfl) ?_
  refine lv_iload_n hx hb dX4_depth_7 rfl (lv_at hl 1 rfl) ?_
  refine lv_icmp_le (tgt := 17) hx hb dX4_depth_8 (by decide) (fun c8 => ?_) (fun c8 => ?_)
  · refine lv_iload_n hx hb dX4_depth_17 rfl (lv_at hl 1 rfl) ?_
    refine lv_iload_n hx hb dX4_depth_18 rfl (lv_at hl 0 rfl) ?_
    refine lv_isub hx hb dX4_depth_19 ?_
    refine lv_bipush (v := 40) hx hb dX4_depth_20 (by decide) ?_
    refine lv_idiv hx hb dX4_depth_22 (by decide) ?_
    refine lv_iadd hx hb dX4_depth_23 ?_
    exact ze_p S hr hlk (by unfold depL; rw [if_pos c8]) dX4_depth_24
  · refine lv_iload_n hx hb dX4_depth_11 rfl (lv_at hl 0 rfl) ?_
    refine lv_iload_n hx hb dX4_depth_12 rfl (lv_at hl 1 rfl) ?_
    refine lv_isub hx hb dX4_depth_13 ?_
    refine lv_goto (tgt := 20) hx hb dX4_depth_14 (by decide) ?_
    refine lv_bipush (v := 40) hx hb dX4_depth_20 (by decide) ?_
    refine lv_idiv hx hb dX4_depth_22 (by decide) ?_
    refine lv_iadd hx hb dX4_depth_23 ?_
    exact ze_p S hr hlk (by unfold depL; rw [if_neg c8]) dX4_depth_24
