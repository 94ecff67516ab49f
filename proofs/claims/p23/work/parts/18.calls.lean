/-! the calls of the sledge side: codes, answers, states; their contracts -/
/-- codes of refusals: 1 the first name, 2 the second -/
def zbad (e1 e2 : String) (c : Nat) : String → Prop := fun E => (E = e1 ∧ c = 1) ∨ (E = e2 ∧ c = 2)
theorem zbad_0 {e1 e2 : String} {c : Nat} {E : String} (h : c = 0) : ¬ zbad e1 e2 c E := by
  rintro (⟨-, q⟩ | ⟨-, q⟩)
  · rw [h] at q; cases q
  · rw [h] at q; cases q
abbrev QXi (D : va_G) (n : Nat) (ad : Nat → Nat) (sz : Nat) (c : Nat) (v : Int32) (ce2 : Nat → va_E) : Array Value → State → Outcome → State → Prop := QWi D n ad sz (fun r (_ : Unit) => c = 0 ∧ r = v) (fun _ => ce2)
theorem zIn_ex {x b : Int32} (M : Nat) (hb : b = nI M) (hM : M < 2 ^ 31) (h : zIn x 0 b) : ∃ j, j < M + 1 ∧ x = nI j := by
  obtain ⟨j, hj, rfl⟩ := nI_of h.1
  refine ⟨j, ?_, rfl⟩
  rcases Nat.lt_or_ge M j with q | q
  · exact absurd (by rw [hb]; exact nI_lt q hj) h.2
  · omega
theorem zIn_ex1 {x a b : Int32} (m M : Nat) (ha : a = nI m) (hb : b = nI M) (hm : m < 2 ^ 31) (hM : M < 2 ^ 31) (h : zIn x a b) : ∃ j, m ≤ j ∧ j < M + 1 ∧ x = nI j := by
  have h0 : ¬ x < 0 := fun q => h.1 (by
    rw [ha]
    rw [Int32.lt_iff_toInt_lt] at q ⊢
    rw [nI_toInt hm]
    rw [Int32.toInt_zero] at q
    omega)
  obtain ⟨j, hj, rfl⟩ := nI_of h0
  refine ⟨j, ?_, ?_, rfl⟩
  · rcases Nat.lt_or_ge j m with q | q
    · exact absurd (by rw [ha]; exact nI_lt q hm) h.1
    · exact q
  · rcases Nat.lt_or_ge M j with q | q
    · exact absurd (by rw [hb]; exact nI_lt q hj) h.2
    · omega
theorem zS_ex {x y : Int32} {N : Nat} (hy : y = nI N) (hN : N < 2 ^ 31) (h : ¬ x < 0 ∧ ¬ y ≤ x) : ∃ i, i < N ∧ x = nI i := by
  obtain ⟨j, hj, rfl⟩ := nI_of h.1
  refine ⟨j, ?_, rfl⟩
  rcases Nat.lt_or_ge j N with q | q
  · exact q
  · exact absurd (by rw [hy]; exact nI_le q hj) h.2
theorem z_lt {x : Int32} {N M : Nat} {y : Int32} (hx : x = nI N) (hN : N < 2 ^ 31) (hy : y = nI M) (h : x < y) : N < M := by
  rcases Nat.lt_or_ge N M with q | q
  · exact q
  · rw [hx, hy] at h
    exact absurd h (nI_nlt q hN)
theorem z_nfull {x o : Int32} {a : Nat} (hx : x = nI a) (h8 : a ≤ 8) (h : ¬ (o ≤ x ∨ ¬ x < 8)) : a < 8 := by
  rcases Nat.lt_or_ge a 8 with q | q
  · exact q
  · exact absurd (Or.inr (by rw [hx]; exact nI_nlt q (by omega))) h
theorem zb_c5 (C : Prop) [Decidable C] {v : Int32} (h : v = (if C then 1 else 0)) : v = (if C then 1 else 0) := h
def k_set (al : Nat → Nat → Int32) (x : Int32) (y : Int32) (z : Int32) : Nat := if ¬ (zIn x 0 4) then 1 else if ¬ (zIn y 0 500) then 2 else if ¬ (zIn z 1 9) then 2 else 0
def v_set (al : Nat → Nat → Int32) (x : Int32) (y : Int32) (z : Int32) : Int32 := (10 * al 1 (ix x)) + al 2 (ix x)
def u_set (al : Nat → Nat → Int32) (x : Int32) (y : Int32) (z : Int32) : Nat → Nat → Int32 := zup (zup al 1 (ix x) y) 2 (ix x) z
def k_setGust (al : Nat → Nat → Int32) (x : Int32) (y : Int32) : Nat := if ¬ (zIn x 0 7) then 1 else if ¬ (zIn y 0 9) then 2 else 0
def v_setGust (al : Nat → Nat → Int32) (x : Int32) (y : Int32) : Int32 := al 3 (ix x)
def u_setGust (al : Nat → Nat → Int32) (x : Int32) (y : Int32) : Nat → Nat → Int32 := zup al 3 (ix x) y
def k_build (al : Nat → Nat → Int32) (x : Int32) : Nat := if ¬ (zIn x 1 8) then 1 else if ¬ (al 0 4 < 6) then 2 else 0
def v_build (al : Nat → Nat → Int32) (x : Int32) : Int32 := al 0 4 + 1 - 1
def u_build (al : Nat → Nat → Int32) (x : Int32) : Nat → Nat → Int32 := zup (zup al (10 + ix (al 0 4)) 0 x) 0 4 (al 0 4 + 1)
def k_launch (al : Nat → Nat → Int32) (x : Int32) : Nat := if ¬ (zIn x 100 900) then 1 else if ¬ (al 0 6 < 4) then 2 else 0
def v_launch (al : Nat → Nat → Int32) (x : Int32) : Int32 := al 0 6 + 1 - 1
def u_launch (al : Nat → Nat → Int32) (x : Int32) : Nat → Nat → Int32 := zup (zup al (24 + ix (al 0 6)) 0 x) 0 6 (al 0 6 + 1)
def k_fill (al : Nat → Nat → Int32) (x : Int32) (y : Int32) : Nat := if ¬ (¬ x < 0 ∧ ¬ al 0 4 ≤ x) then 1 else if ¬ (zIn y 0 4) then 1 else if ¬ (al (10 + ix x) 4 = 0) then 2 else if al (10 + ix x) 0 ≤ al (10 + ix x) 2 ∨ ¬ al (10 + ix x) 2 < 8 then 2 else if ¬ (10 ≤ al 1 (ix y)) then 2 else 0
def v_fill (al : Nat → Nat → Int32) (x : Int32) (y : Int32) : Int32 := knd (10 * al 2 (ix y))
def u_fill (al : Nat → Nat → Int32) (x : Int32) (y : Int32) : Nat → Nat → Int32 := zup (zup (zup al 1 (ix y) (al 1 (ix y) - 10)) (17 + ix x) (ix (al (10 + ix x) 2)) (10 * al 2 (ix y))) (10 + ix x) 2 (al (10 + ix x) 2 + 1)
def k_go (al : Nat → Nat → Int32) (x : Int32) : Nat := if ¬ (¬ x < 0 ∧ ¬ al 0 4 ≤ x) then 1 else if ¬ (al (10 + ix x) 4 = 0) then 2 else 0
def v_go (al : Nat → Nat → Int32) (x : Int32) : Int32 := al (10 + ix x) 2
def u_go (al : Nat → Nat → Int32) (x : Int32) : Nat → Nat → Int32 := zup al (10 + ix x) 4 1
def k_stow (al : Nat → Nat → Int32) (x : Int32) (y : Int32) (z : Int32) : Nat := if ¬ (¬ x < 0 ∧ ¬ al 0 6 ≤ x) then 1 else if ¬ (zIn y 0 2) then 1 else if ¬ (1 ≤ al (8 + 0) (ix y)) then 2 else if ¬ (stw y ≤ ((al (24 + ix x) 0 - al (24 + ix x) 1) - al (24 + ix x) 2)) then 2 else 0
def u_stow (al : Nat → Nat → Int32) (x : Int32) (y : Int32) (z : Int32) : Nat → Nat → Int32 := if z = 0 then zup (zup al (8 + 0) (ix y) (al (8 + 0) (ix y) - 1)) (24 + ix x) 2 (al (24 + ix x) 2 + stw y) else zup (zup al (8 + 0) (ix y) (al (8 + 0) (ix y) - 1)) (24 + ix x) 1 (al (24 + ix x) 1 + stw y)
def v_stow (al : Nat → Nat → Int32) (x : Int32) (y : Int32) (z : Int32) : Int32 := u_stow al x y z (24 + ix x) 1 - u_stow al x y z (24 + ix x) 2
def k_sail (al : Nat → Nat → Int32) (x : Int32) : Nat := if ¬ (¬ x < 0 ∧ ¬ al 0 6 ≤ x) then 1 else if ¬ (¬ 20 < dep (al (24 + ix x) 1) (al (24 + ix x) 2) ∧ zIn (al (24 + ix x) 1 - al (24 + ix x) 2) (-100) 100) then 2 else 0
def v_sail (al : Nat → Nat → Int32) (x : Int32) : Int32 := ((al (24 + ix x) 1 + al (24 + ix x) 2) / 10) * 3
def u_sail (al : Nat → Nat → Int32) (x : Int32) : Nat → Nat → Int32 := zup (zup (zup al (24 + ix x) 1 0) (24 + ix x) 2 0) 0 9 (al 0 9 + (((al (24 + ix x) 1 + al (24 + ix x) 2) / 10) * 3))
def k_layer (al : Nat → Nat → Int32) (x : Int32) (y : Int32) : Nat := if ¬ (zIn x 0 4) then 1 else if ¬ (zIn y 0 3) then 1 else 0
def v_layer (al : Nat → Nat → Int32) (x : Int32) (y : Int32) : Int32 := if y = 0 then al 1 (ix x) else if y = 1 then al 2 (ix x) else if y = 2 then knd (10 * al 2 (ix x)) else al 1 (ix x) / 10
def k_told (al : Nat → Nat → Int32) (x : Int32) (y : Int32) : Nat := if ¬ (¬ x < 0 ∧ ¬ al 0 4 ≤ x) then 1 else if ¬ (zIn y 0 5) then 1 else 0
def v_told (al : Nat → Nat → Int32) (x : Int32) (y : Int32) : Int32 := if y = 0 then al (10 + ix x) 0 else if y = 1 then al (10 + ix x) 2 else if y = 2 then al (10 + ix x) 3 else if y = 3 then al (10 + ix x) 4 else if y = 4 then sumI (al (17 + ix x)) (ix (al (10 + ix x) 2)) else if al (10 + ix x) 2 ≤ 0 then (-1) else knd (al (17 + ix x) (ix (al (10 + ix x) 2) - 1))
def k_boat (al : Nat → Nat → Int32) (x : Int32) (y : Int32) : Nat := if ¬ (¬ x < 0 ∧ ¬ al 0 6 ≤ x) then 1 else if ¬ (zIn y 0 6) then 1 else 0
def v_boat (al : Nat → Nat → Int32) (x : Int32) (y : Int32) : Int32 := if y = 0 then al (24 + ix x) 0 else if y = 1 then al (24 + ix x) 1 else if y = 2 then al (24 + ix x) 2 else if y = 3 then (al (24 + ix x) 1 - al (24 + ix x) 2) else if y = 4 then dep (al (24 + ix x) 1) (al (24 + ix x) 2) else if y = 5 then (if (¬ 20 < dep (al (24 + ix x) 1) (al (24 + ix x) 2) ∧ zIn (al (24 + ix x) 1 - al (24 + ix x) 2) (-100) 100) then 1 else 0) else ((al (24 + ix x) 0 - al (24 + ix x) 1) - al (24 + ix x) 2)
def k_beach (al : Nat → Nat → Int32) (x : Int32) : Nat := if ¬ (zIn x 0 2) then 1 else 0
def v_beach (al : Nat → Nat → Int32) (x : Int32) : Int32 := al (8 + 0) (ix x)
def k_count (al : Nat → Nat → Int32) (x : Int32) : Nat := if ¬ (zIn x 0 8) then 1 else 0
def v_count (al : Nat → Nat → Int32) (x : Int32) : Int32 := if x = 0 then al 0 8 else if x = 1 then al 3 (ix (al 0 8) % 8) else if x = 2 then al 0 4 else if x = 3 then al 0 6 else if x = 4 then al 0 9 else if x = 5 then sumI (fun i => al (10 + i) 2) (ix (al 0 4)) else if x = 6 then ((al (8 + 0) 0 + al (8 + 0) 1) + al (8 + 0) 2) else if x = 7 then al (6 + 0) 1 else sumI (al 1) 5
set_option maxHeartbeats 4000000 in
set_option maxRecDepth 100000 in
theorem cX3_stowedWeight_ok (l : Launch) (k : Nat) (hk : k < 3) : Met l yX3_stowedWeight wsX3_stowedWeight ({ frames := 0, cells := 0, slots := 0, locals := 0 }) (va_Pc [.int (nI k)] (fun _ => True)) (QP (stw (nI k))) 0 0 (fun _ => False) := by
  refine zs_pure (cc := cX3_stowedWeight) (maxL := 1) (ret := (some .int)) (own := RX3) (by decide) rfl rfl (Nat.le_of_ble_eq_true rfl) ?_
  intro p e s m args below meth c ls S hr hlk hav hl
  have hx := S.1
  have hb := S.2.1
  have hl : lv_has ls 1 [(0, .int (nI k))] := hl
  refine lv_iload_n hx hb dX3_stowedWeight_0 rfl (lv_at hl 0 rfl) ?_
  rcases (show k = 0 ∨ k = 1 ∨ k = 2 by omega) with rfl | rfl | rfl
  · refine lv_lookup (off := 33) (tgt := 34) hx hb dX3_stowedWeight_1 (by decide) (by decide) (by decide) ?_
    refine lv_bipush (v := 80) hx hb dX3_stowedWeight_34 (by decide) ?_
    exact ze_p S hr hlk (by decide) dX3_stowedWeight_36
  · refine lv_lookup (off := 30) (tgt := 31) hx hb dX3_stowedWeight_1 (by decide) (by decide) (by decide) ?_
    refine lv_bipush (v := 50) hx hb dX3_stowedWeight_31 (by decide) ?_
    exact ze_p S hr hlk (by decide) dX3_stowedWeight_33
  · refine lv_lookup (off := 27) (tgt := 28) hx hb dX3_stowedWeight_1 (by decide) (by decide) (by decide) ?_
    refine lv_bipush (v := 20) hx hb dX3_stowedWeight_28 (by decide) ?_
    exact ze_p S hr hlk (by decide) dX3_stowedWeight_30
set_option maxHeartbeats 4000000 in
set_option maxRecDepth 100000 in
theorem cX3_set_ok (l : Launch) (D : va_G) (n : Nat) (ad cy sa : Nat → Nat) (sz : Nat) (hn : 28 ≤ n) (al : Nat → Nat → Int32) (ex : Nat → va_E) (x : Int32) (y : Int32) (z : Int32)  (hfl : l.stackTraces = false) : vx_Met l yX3_set wsX3_set ({ frames := 6, cells := 1, slots := 6, locals := 110 }) (PW D n ad cy sa sz (cC cy ad al ex) [.ref (ad 0), .int x, .int y, .int z]) (QXi D n ad sz (k_set al x y z) (v_set al x y z) (cC cy ad (u_set al x y z) ex)) (XW D n ad sz (zbad "java/lang/IndexOutOfBoundsException" "java/lang/IllegalArgumentException" (k_set al x y z)) (cC cy ad al ex)) 1 6 (Acc n ad sz) := by
  refine zs_vx (cc := cX3_set) (maxL := 5) (ret := (some .int)) (own := RX3) (by decide) rfl rfl (Nat.le_of_ble_eq_true rfl) ?_
  intro p e s m args below meth c ls S hnx hE hW hr hlk hsz hav hl
  subst hsz
  have hx := S.1
  have hb := S.2.1
  have hown := S.2.2.2.1
  have hts := S.2.2.2.2
  have hl : lv_has ls 5 [(0, .ref (ad 0)), (1, .int x), (2, .int y), (3, .int z)] := hl
  have f9 := hts (.fieldLink RX3 9 "PumiceSledge" "stones" "[I") (by decide +kernel)
  have hi3 : ∀ w ∈ wsX30, w ∈ wsX3_set := by decide +kernel
  have f13 := hts (.fieldLink RX3 13 "PumiceSledge" "stoneWeights" "[I") (by decide +kernel)
  have x62 := hts (.classLink RX3 62 "java/lang/IllegalArgumentException") (by decide +kernel)
  have xi62 := hts (.initialized "java/lang/IllegalArgumentException") (by decide +kernel)
  have x51 := hts (.classLink RX3 51 "java/lang/IndexOutOfBoundsException") (by decide +kernel)
  have xi51 := hts (.initialized "java/lang/IndexOutOfBoundsException") (by decide +kernel)
  refine lv_iload_n hx hb dX3_set_0 rfl (lv_at hl 1 rfl) ?_
  refine z_pS (As := [.int x]) (rest := []) S hE hW (cX3_isLayer_ok l x) (va_cwS 1 hts gX3_set_X3_isLayer rfl rfl rfl (by decide +kernel) ⟨Nat.le_of_ble_eq_true rfl, Nat.le_of_ble_eq_true rfl⟩) rfl hl.1 rfl (Nat.le_of_ble_eq_true rfl) dX3_set_1 ⟨Nat.le_of_ble_eq_true rfl, Nat.le_of_ble_eq_true rfl⟩ (fun H locs hW => ?_)
  refine lv_if_ne (tgt := 17) hx hb dX3_set_4 (by decide) (fun c4 => ?_) (fun c4 => ?_)
  · have c4 := zb_t c4
    refine lv_iload_n hx hb dX3_set_17 rfl (lv_at hl 2 rfl) ?_
    refine lv_iconst (v := 0) hx hb dX3_set_18 (by decide) ?_
    refine lv_sipush (v := 500) hx hb dX3_set_19 (by decide) ?_
    refine z_pS (As := [.int y, .int 0, .int 500]) (rest := []) S hE hW (cX3_isWithin_ok l y 0 500) (va_cwS 3 hts gX3_set_X3_isWithin rfl rfl rfl (by decide +kernel) ⟨Nat.le_of_ble_eq_true rfl, Nat.le_of_ble_eq_true rfl⟩) rfl hl.1 rfl (Nat.le_of_ble_eq_true rfl) dX3_set_22 ⟨Nat.le_of_ble_eq_true rfl, Nat.le_of_ble_eq_true rfl⟩ (fun H locs hW => ?_)
    refine lv_if_ne (tgt := 38) hx hb dX3_set_25 (by decide) (fun c25 => ?_) (fun c25 => ?_)
    · have c25 := zb_t c25
      refine lv_iload_n hx hb dX3_set_38 rfl (lv_at hl 3 rfl) ?_
      refine lv_iconst (v := 1) hx hb dX3_set_39 (by decide) ?_
      refine lv_bipush (v := 9) hx hb dX3_set_40 (by decide) ?_
      refine z_pS (As := [.int z, .int 1, .int 9]) (rest := []) S hE hW (cX3_isWithin_ok l z 1 9) (va_cwS 3 hts gX3_set_X3_isWithin rfl rfl rfl (by decide +kernel) ⟨Nat.le_of_ble_eq_true rfl, Nat.le_of_ble_eq_true rfl⟩) rfl hl.1 rfl (Nat.le_of_ble_eq_true rfl) dX3_set_42 ⟨Nat.le_of_ble_eq_true rfl, Nat.le_of_ble_eq_true rfl⟩ (fun H locs hW => ?_)
      refine lv_if_ne (tgt := 58) hx hb dX3_set_45 (by decide) (fun c45 => ?_) (fun c45 => ?_)
      · have c45 := zb_t c45
        obtain ⟨j, hj, rfl⟩ := zIn_ex 4 rfl (by decide) c4
        refine lv_bipush (v := 10) hx hb dX3_set_58 (by decide) ?_
        refine lv_aload_n hx hb dX3_set_60 rfl (lv_at hl 0 rfl) ?_
        refine z_get (C := RX3) (T := TX3) (N := 12) (ci := 3) S hE hW hi3 rfl (Nat.lt_of_lt_of_le (by decide) hn) cC_0 0 (by decide) rfl f9 (v := .ref (ad 1)) rfl dX3_set_61 ?_
        refine lv_iload_n hx hb dX3_set_64 rfl (lv_at hl 1 rfl) ?_
        refine z_ald S hE hW (Nat.lt_of_lt_of_le (by decide) hn) cC_1 j rfl (by omega) (by decide) (v := al 1 j) rfl dX3_set_65 ?_
        refine lv_imul hx hb dX3_set_66 ?_
        refine lv_aload_n hx hb dX3_set_67 rfl (lv_at hl 0 rfl) ?_
        refine z_get (C := RX3) (T := TX3) (N := 12) (ci := 3) S hE hW hi3 rfl (Nat.lt_of_lt_of_le (by decide) hn) cC_0 1 (by decide) rfl f13 (v := .ref (ad 2)) rfl dX3_set_68 ?_
        refine lv_iload_n hx hb dX3_set_71 rfl (lv_at hl 1 rfl) ?_
        refine z_ald S hE hW (Nat.lt_of_lt_of_le (by decide) hn) cC_2 j rfl (by omega) (by decide) (v := al 2 j) rfl dX3_set_72 ?_
        refine lv_iadd hx hb dX3_set_73 ?_
        refine lv_istore (lv' := [(4, .int ((10 * al 1 j) + al 2 j)), (0, .ref (ad 0)), (1, .int (nI j)), (2, .int y), (3, .int z)]) hx hb dX3_set_74 hl (by decide) rfl (fun ls hl => ?_)
        refine lv_aload_n hx hb dX3_set_76 rfl (lv_at hl 1 rfl) ?_
        refine z_get (C := RX3) (T := TX3) (N := 12) (ci := 3) S hE hW hi3 rfl (Nat.lt_of_lt_of_le (by decide) hn) cC_0 0 (by decide) rfl f9 (v := .ref (ad 1)) rfl dX3_set_77 ?_
        refine lv_iload_n hx hb dX3_set_80 rfl (lv_at hl 2 rfl) ?_
        refine lv_iload_n hx hb dX3_set_81 rfl (lv_at hl 3 rfl) ?_
        refine z_ast (ce' := cC cy ad (zup al 1 j y) ex) S hE hW (Nat.lt_of_lt_of_le (by decide) hn) cC_1 j rfl (by omega) (by decide) pC_1 (fun j h => cC_o h) dX3_set_82 (fun H locs hW => ?_)
        refine lv_aload_n hx hb dX3_set_83 rfl (lv_at hl 1 rfl) ?_
        refine z_get (C := RX3) (T := TX3) (N := 12) (ci := 3) S hE hW hi3 rfl (Nat.lt_of_lt_of_le (by decide) hn) cC_0 1 (by decide) rfl f13 (v := .ref (ad 2)) rfl dX3_set_84 ?_
        refine lv_iload_n hx hb dX3_set_87 rfl (lv_at hl 2 rfl) ?_
        refine lv_iload_n hx hb dX3_set_88 rfl (lv_at hl 4 rfl) ?_
        refine z_ast (ce' := cC cy ad (zup (zup al 1 j y) 2 j z) ex) S hE hW (Nat.lt_of_lt_of_le (by decide) hn) cC_2 j rfl (by omega) (by decide) pC_2 (fun j h => cC_o h) dX3_set_89 (fun H locs hW => ?_)
        refine lv_iload hx hb dX3_set_90 (lv_at hl 0 rfl) ?_
        exact zx_i S hW hr hlk () (congrArg (fun z => cC cy ad z ex) (by unfold u_set; rw [ix_nI (show j < 2 ^ 31 by omega)])) ⟨(by unfold k_set; rw [if_neg (fun h => h c4), if_neg (fun h => h c25), if_neg (fun h => h c45)]), (by unfold v_set; rw [ix_nI (show j < 2 ^ 31 by omega)])⟩ (Nat.le_of_ble_eq_true rfl) (Nat.le_of_ble_eq_true rfl) dX3_set_92
      · have c45 := zb_f c45
        exact z_throw (E := "java/lang/IllegalArgumentException") 2 S hnx hE hW hfl (by decide) x62 xi62 (fun _ h => List.mem_cons_of_mem _ (List.mem_append_right _ h)) z_castA z_otA rfl hl.1 dX3_set_48 dX3_set_51 dX3_set_52 dX3_set_54 dX3_set_57 ⟨Nat.le_of_ble_eq_true rfl, Nat.le_of_ble_eq_true rfl, Nat.le_of_ble_eq_true rfl, Nat.le_of_ble_eq_true rfl⟩ hlk (Nat.le_of_ble_eq_true rfl) (Nat.le_of_ble_eq_true rfl) (Or.inr ⟨rfl, (by unfold k_set; rw [if_neg (fun h => h c4), if_neg (fun h => h c25), if_pos c45])⟩)
    · have c25 := zb_f c25
      exact z_throw (E := "java/lang/IllegalArgumentException") 1 S hnx hE hW hfl (by decide) x62 xi62 (fun _ h => List.mem_cons_of_mem _ (List.mem_append_right _ h)) z_castA z_otA rfl hl.1 dX3_set_28 dX3_set_31 dX3_set_32 dX3_set_34 dX3_set_37 ⟨Nat.le_of_ble_eq_true rfl, Nat.le_of_ble_eq_true rfl, Nat.le_of_ble_eq_true rfl, Nat.le_of_ble_eq_true rfl⟩ hlk (Nat.le_of_ble_eq_true rfl) (Nat.le_of_ble_eq_true rfl) (Or.inr ⟨rfl, (by unfold k_set; rw [if_neg (fun h => h c4), if_pos c25])⟩)
  · have c4 := zb_f c4
    exact z_throw (E := "java/lang/IndexOutOfBoundsException") 0 S hnx hE hW hfl (by decide) x51 xi51 (fun _ h => List.mem_cons_of_mem _ (List.mem_append_left _ (List.mem_append_right _ h))) z_castI z_otI rfl hl.1 dX3_set_7 dX3_set_10 dX3_set_11 dX3_set_13 dX3_set_16 ⟨Nat.le_of_ble_eq_true rfl, Nat.le_of_ble_eq_true rfl, Nat.le_of_ble_eq_true rfl, Nat.le_of_ble_eq_true rfl⟩ hlk (Nat.le_of_ble_eq_true rfl) (Nat.le_of_ble_eq_true rfl) (Or.inl ⟨rfl, (by unfold k_set; rw [if_pos c4])⟩)
set_option maxHeartbeats 4000000 in
set_option maxRecDepth 100000 in
theorem cX3_setGust_ok (l : Launch) (D : va_G) (n : Nat) (ad cy sa : Nat → Nat) (sz : Nat) (hn : 28 ≤ n) (al : Nat → Nat → Int32) (ex : Nat → va_E) (x : Int32) (y : Int32)  (hfl : l.stackTraces = false) : vx_Met l yX3_setGust wsX3_setGust ({ frames := 6, cells := 1, slots := 6, locals := 110 }) (PW D n ad cy sa sz (cC cy ad al ex) [.ref (ad 0), .int x, .int y]) (QXi D n ad sz (k_setGust al x y) (v_setGust al x y) (cC cy ad (u_setGust al x y) ex)) (XW D n ad sz (zbad "java/lang/IndexOutOfBoundsException" "java/lang/IllegalArgumentException" (k_setGust al x y)) (cC cy ad al ex)) 1 6 (Acc n ad sz) := by
  refine zs_vx (cc := cX3_setGust) (maxL := 4) (ret := (some .int)) (own := RX3) (by decide) rfl rfl (Nat.le_of_ble_eq_true rfl) ?_
  intro p e s m args below meth c ls S hnx hE hW hr hlk hsz hav hl
  subst hsz
  have hx := S.1
  have hb := S.2.1
  have hown := S.2.2.2.1
  have hts := S.2.2.2.2
  have hl : lv_has ls 4 [(0, .ref (ad 0)), (1, .int x), (2, .int y)] := hl
  have f16 := hts (.fieldLink RX3 16 "PumiceSledge" "gusts" "[I") (by decide +kernel)
  have hi3 : ∀ w ∈ wsX30, w ∈ wsX3_setGust := by decide +kernel
  have x62 := hts (.classLink RX3 62 "java/lang/IllegalArgumentException") (by decide +kernel)
  have xi62 := hts (.initialized "java/lang/IllegalArgumentException") (by decide +kernel)
  have x51 := hts (.classLink RX3 51 "java/lang/IndexOutOfBoundsException") (by decide +kernel)
  have xi51 := hts (.initialized "java/lang/IndexOutOfBoundsException") (by decide +kernel)
  refine lv_iload_n hx hb dX3_setGust_0 rfl (lv_at hl 1 rfl) ?_
  refine lv_iconst (v := 0) hx hb dX3_setGust_1 (by decide) ?_
  refine lv_bipush (v := 7) hx hb dX3_setGust_2 (by decide) ?_
  refine z_pS (As := [.int x, .int 0, .int 7]) (rest := []) S hE hW (cX3_isWithin_ok l x 0 7) (va_cwS 3 hts gX3_setGust_X3_isWithin rfl rfl rfl (by decide +kernel) ⟨Nat.le_of_ble_eq_true rfl, Nat.le_of_ble_eq_true rfl⟩) rfl hl.1 rfl (Nat.le_of_ble_eq_true rfl) dX3_setGust_4 ⟨Nat.le_of_ble_eq_true rfl, Nat.le_of_ble_eq_true rfl⟩ (fun H locs hW => ?_)
  refine lv_if_ne (tgt := 20) hx hb dX3_setGust_7 (by decide) (fun c7 => ?_) (fun c7 => ?_)
  · have c7 := zb_t c7
    refine lv_iload_n hx hb dX3_setGust_20 rfl (lv_at hl 2 rfl) ?_
    refine lv_iconst (v := 0) hx hb dX3_setGust_21 (by decide) ?_
    refine lv_bipush (v := 9) hx hb dX3_setGust_22 (by decide) ?_
    refine z_pS (As := [.int y, .int 0, .int 9]) (rest := []) S hE hW (cX3_isWithin_ok l y 0 9) (va_cwS 3 hts gX3_setGust_X3_isWithin rfl rfl rfl (by decide +kernel) ⟨Nat.le_of_ble_eq_true rfl, Nat.le_of_ble_eq_true rfl⟩) rfl hl.1 rfl (Nat.le_of_ble_eq_true rfl) dX3_setGust_24 ⟨Nat.le_of_ble_eq_true rfl, Nat.le_of_ble_eq_true rfl⟩ (fun H locs hW => ?_)
    refine lv_if_ne (tgt := 40) hx hb dX3_setGust_27 (by decide) (fun c27 => ?_) (fun c27 => ?_)
    · have c27 := zb_t c27
      obtain ⟨j, hj, rfl⟩ := zIn_ex 7 rfl (by decide) c7
      refine lv_aload_n hx hb dX3_setGust_40 rfl (lv_at hl 0 rfl) ?_
      refine z_get (C := RX3) (T := TX3) (N := 12) (ci := 3) S hE hW hi3 rfl (Nat.lt_of_lt_of_le (by decide) hn) cC_0 2 (by decide) rfl f16 (v := .ref (ad 3)) rfl dX3_setGust_41 ?_
      refine lv_iload_n hx hb dX3_setGust_44 rfl (lv_at hl 1 rfl) ?_
      refine z_ald S hE hW (Nat.lt_of_lt_of_le (by decide) hn) cC_3 j rfl (by omega) (by decide) (v := al 3 j) rfl dX3_setGust_45 ?_
      refine lv_istore_n (lv' := [(3, .int (al 3 j)), (0, .ref (ad 0)), (1, .int (nI j)), (2, .int y)]) hx hb dX3_setGust_46 rfl hl (by decide) rfl (fun ls hl => ?_)
      refine lv_aload_n hx hb dX3_setGust_47 rfl (lv_at hl 1 rfl) ?_
      refine z_get (C := RX3) (T := TX3) (N := 12) (ci := 3) S hE hW hi3 rfl (Nat.lt_of_lt_of_le (by decide) hn) cC_0 2 (by decide) rfl f16 (v := .ref (ad 3)) rfl dX3_setGust_48 ?_
      refine lv_iload_n hx hb dX3_setGust_51 rfl (lv_at hl 2 rfl) ?_
      refine lv_iload_n hx hb dX3_setGust_52 rfl (lv_at hl 3 rfl) ?_
      refine z_ast (ce' := cC cy ad (zup al 3 j y) ex) S hE hW (Nat.lt_of_lt_of_le (by decide) hn) cC_3 j rfl (by omega) (by decide) pC_3 (fun j h => cC_o h) dX3_setGust_53 (fun H locs hW => ?_)
      refine lv_iload_n hx hb dX3_setGust_54 rfl (lv_at hl 0 rfl) ?_
      exact zx_i S hW hr hlk () (congrArg (fun z => cC cy ad z ex) (by unfold u_setGust; rw [ix_nI (show j < 2 ^ 31 by omega)])) ⟨(by unfold k_setGust; rw [if_neg (fun h => h c7), if_neg (fun h => h c27)]), (by unfold v_setGust; rw [ix_nI (show j < 2 ^ 31 by omega)])⟩ (Nat.le_of_ble_eq_true rfl) (Nat.le_of_ble_eq_true rfl) dX3_setGust_55
    · have c27 := zb_f c27
      exact z_throw (E := "java/lang/IllegalArgumentException") 4 S hnx hE hW hfl (by decide) x62 xi62 (fun _ h => List.mem_cons_of_mem _ (List.mem_append_right _ h)) z_castA z_otA rfl hl.1 dX3_setGust_30 dX3_setGust_33 dX3_setGust_34 dX3_setGust_36 dX3_setGust_39 ⟨Nat.le_of_ble_eq_true rfl, Nat.le_of_ble_eq_true rfl, Nat.le_of_ble_eq_true rfl, Nat.le_of_ble_eq_true rfl⟩ hlk (Nat.le_of_ble_eq_true rfl) (Nat.le_of_ble_eq_true rfl) (Or.inr ⟨rfl, (by unfold k_setGust; rw [if_neg (fun h => h c7), if_pos c27])⟩)
  · have c7 := zb_f c7
    exact z_throw (E := "java/lang/IndexOutOfBoundsException") 3 S hnx hE hW hfl (by decide) x51 xi51 (fun _ h => List.mem_cons_of_mem _ (List.mem_append_left _ (List.mem_append_right _ h))) z_castI z_otI rfl hl.1 dX3_setGust_10 dX3_setGust_13 dX3_setGust_14 dX3_setGust_16 dX3_setGust_19 ⟨Nat.le_of_ble_eq_true rfl, Nat.le_of_ble_eq_true rfl, Nat.le_of_ble_eq_true rfl, Nat.le_of_ble_eq_true rfl⟩ hlk (Nat.le_of_ble_eq_true rfl) (Nat.le_of_ble_eq_true rfl) (Or.inl ⟨rfl, (by unfold k_setGust; rw [if_pos c7])⟩)
set_option maxHeartbeats 4000000 in
set_option maxRecDepth 100000 in
theorem cX3_build_ok (l : Launch) (D : va_G) (n : Nat) (ad cy sa : Nat → Nat) (sz : Nat) (hn : 28 ≤ n) (al : Nat → Nat → Int32) (ex : Nat → va_E) (x : Int32) (N : Nat) (hN : al 0 4 = nI N) (hN6 : N ≤ 6) (hfl : l.stackTraces = false) : vx_Met l yX3_build wsX3_build ({ frames := 6, cells := 1, slots := 6, locals := 110 }) (PW D n ad cy sa sz (cC cy ad al ex) [.ref (ad 0), .int x]) (QXi D n ad sz (k_build al x) (v_build al x) (cC cy ad (u_build al x) ex)) (XW D n ad sz (zbad "java/lang/IllegalArgumentException" "java/lang/IllegalStateException" (k_build al x)) (cC cy ad al ex)) 1 6 (Acc n ad sz) := by
  refine zs_vx (cc := cX3_build) (maxL := 2) (ret := (some .int)) (own := RX3) (by decide) rfl rfl (Nat.le_of_ble_eq_true rfl) ?_
  intro p e s m args below meth c ls S hnx hE hW hr hlk hsz hav hl
  subst hsz
  have hx := S.1
  have hb := S.2.1
  have hown := S.2.2.2.1
  have hts := S.2.2.2.2
  have hl : lv_has ls 2 [(0, .ref (ad 0)), (1, .int x)] := hl
  have f75 := hts (.fieldLink RX3 75 "PumiceSledge" "sledgeCount" "I") (by decide +kernel)
  have hi3 : ∀ w ∈ wsX30, w ∈ wsX3_build := by decide +kernel
  have f21 := hts (.fieldLink RX3 21 "PumiceSledge" "sledges" "[LPumiceSledge$Sledge;") (by decide +kernel)
  have hi2 : ∀ w ∈ wsX20, w ∈ wsX3_build := by decide +kernel
  have x79 := hts (.classLink RX3 79 "java/lang/IllegalStateException") (by decide +kernel)
  have xi79 := hts (.initialized "java/lang/IllegalStateException") (by decide +kernel)
  have x62 := hts (.classLink RX3 62 "java/lang/IllegalArgumentException") (by decide +kernel)
  have xi62 := hts (.initialized "java/lang/IllegalArgumentException") (by decide +kernel)
  refine lv_iload_n hx hb dX3_build_0 rfl (lv_at hl 1 rfl) ?_
  refine lv_iconst (v := 1) hx hb dX3_build_1 (by decide) ?_
  refine lv_bipush (v := 8) hx hb dX3_build_2 (by decide) ?_
  refine z_pS (As := [.int x, .int 1, .int 8]) (rest := []) S hE hW (cX3_isWithin_ok l x 1 8) (va_cwS 3 hts gX3_build_X3_isWithin rfl rfl rfl (by decide +kernel) ⟨Nat.le_of_ble_eq_true rfl, Nat.le_of_ble_eq_true rfl⟩) rfl hl.1 rfl (Nat.le_of_ble_eq_true rfl) dX3_build_4 ⟨Nat.le_of_ble_eq_true rfl, Nat.le_of_ble_eq_true rfl⟩ (fun H locs hW => ?_)
  refine lv_if_ne (tgt := 20) hx hb dX3_build_7 (by decide) (fun c7 => ?_) (fun c7 => ?_)
  · have c7 := zb_t c7
    refine lv_aload_n hx hb dX3_build_20 rfl (lv_at hl 0 rfl) ?_
    refine z_get (C := RX3) (T := TX3) (N := 12) (ci := 3) S hE hW hi3 rfl (Nat.lt_of_lt_of_le (by decide) hn) cC_0 4 (by decide) rfl f75 (v := .int (al 0 4)) rfl dX3_build_21 ?_
    refine lv_bipush (v := 6) hx hb dX3_build_24 (by decide) ?_
    refine lv_icmp_lt (tgt := 39) hx hb dX3_build_26 (by decide) (fun c26 => ?_) (fun c26 => ?_)
    · have hlt : N < 6 := z_lt hN (by omega) (by decide) c26
      refine lv_aload_n hx hb dX3_build_39 rfl (lv_at hl 0 rfl) ?_
      refine z_get (C := RX3) (T := TX3) (N := 12) (ci := 3) S hE hW hi3 rfl (Nat.lt_of_lt_of_le (by decide) hn) cC_0 3 (by decide) rfl f21 (v := .ref (ad 4)) rfl dX3_build_40 ?_
      refine lv_aload_n hx hb dX3_build_43 rfl (lv_at hl 0 rfl) ?_
      refine z_get (C := RX3) (T := TX3) (N := 12) (ci := 3) S hE hW hi3 rfl (Nat.lt_of_lt_of_le (by decide) hn) cC_0 4 (by decide) rfl f75 (v := .int (nI N)) (congrArg (fun z => some (Value.int z)) (hN)) dX3_build_44 ?_
      refine z_aldq (t0 := 1) (C := RX2) S hE hW (Nat.lt_of_lt_of_le (by decide) hn) cC_4 rfl N rfl (by omega) (by decide) (v := .ref (ad (10 + N))) rfl dX3_build_47 ?_
      refine lv_iload_n hx hb dX3_build_48 rfl (lv_at hl 1 rfl) ?_
      refine z_putN (ce' := cC cy ad (zup al (10 + N) 0 x) ex) (C := RX2) (T := TX2) (N := 5) (ci := 2) S hE hW hi2 tyX2 tyX2_ok nmX2 rfl (Nat.lt_of_lt_of_le (kC_s (by omega)) hn) (cC_s (i := N) (by omega)) 0 (by decide) rfl 6 rfl rfl rfl (Nat.le_of_ble_eq_true rfl) (pC_s (i := N) (by omega) (by decide)) (fun j h => cC_o h) dX3_build_49 (fun H locs hW => ?_)
      refine lv_aload_n hx hb dX3_build_52 rfl (lv_at hl 0 rfl) ?_
      refine lv_dup hx hb dX3_build_53 rfl ?_
      refine z_get (C := RX3) (T := TX3) (N := 12) (ci := 3) S hE hW hi3 rfl (Nat.lt_of_lt_of_le (by decide) hn) cC_0 4 (by decide) rfl f75 (v := .int (nI N)) (congrArg (fun z => some (Value.int z)) ((congrFun (zup_o (by omega)) 4).trans hN)) dX3_build_54 ?_
      refine lv_iconst (v := 1) hx hb dX3_build_57 (by decide) ?_
      refine lv_iadd hx hb dX3_build_58 ?_
      refine z_put (ce' := cC cy ad (zup (zup al (10 + N) 0 x) 0 4 (nI N + 1)) ex) (C := RX3) (T := TX3) (N := 12) (ci := 3) S hE hW hi3 tyX3 tyX3_ok nmX3 rfl (Nat.lt_of_lt_of_le (by decide) hn) cC_0 4 (by decide) rfl f75 rfl rfl (Nat.le_of_ble_eq_true rfl) (pC_0 (by decide)) (fun j h => cC_o h) dX3_build_59 (fun H locs hW => ?_)
      refine lv_aload_n hx hb dX3_build_62 rfl (lv_at hl 0 rfl) ?_
      refine z_get (C := RX3) (T := TX3) (N := 12) (ci := 3) S hE hW hi3 rfl (Nat.lt_of_lt_of_le (by decide) hn) cC_0 4 (by decide) rfl f75 (v := .int (nI N + 1)) (congrArg (fun z => some (Value.int z)) ((congrFun zup_k 4).trans up_s)) dX3_build_63 ?_
      refine lv_iconst (v := 1) hx hb dX3_build_66 (by decide) ?_
      refine lv_isub hx hb dX3_build_67 ?_
      exact zx_i S hW hr hlk () (congrArg (fun z => cC cy ad z ex) (by unfold u_build; rw [hN, ix_nI (show N < 2 ^ 31 by omega)])) ⟨(by unfold k_build; rw [if_neg (fun h => h c7), if_neg (fun h => h c26)]), (by unfold v_build; rw [hN])⟩ (Nat.le_of_ble_eq_true rfl) (Nat.le_of_ble_eq_true rfl) dX3_build_68
    · exact z_throw (E := "java/lang/IllegalStateException") 6 S hnx hE hW hfl (by decide) x79 xi79 (fun _ h => List.mem_cons_of_mem _ (List.mem_append_right _ h)) z_castS z_otS rfl hl.1 dX3_build_29 dX3_build_32 dX3_build_33 dX3_build_35 dX3_build_38 ⟨Nat.le_of_ble_eq_true rfl, Nat.le_of_ble_eq_true rfl, Nat.le_of_ble_eq_true rfl, Nat.le_of_ble_eq_true rfl⟩ hlk (Nat.le_of_ble_eq_true rfl) (Nat.le_of_ble_eq_true rfl) (Or.inr ⟨rfl, (by unfold k_build; rw [if_neg (fun h => h c7), if_pos c26])⟩)
  · have c7 := zb_f c7
    exact z_throw (E := "java/lang/IllegalArgumentException") 5 S hnx hE hW hfl (by decide) x62 xi62 (fun _ h => List.mem_cons_of_mem _ (List.mem_append_left _ (List.mem_append_right _ h))) z_castA z_otA rfl hl.1 dX3_build_10 dX3_build_13 dX3_build_14 dX3_build_16 dX3_build_19 ⟨Nat.le_of_ble_eq_true rfl, Nat.le_of_ble_eq_true rfl, Nat.le_of_ble_eq_true rfl, Nat.le_of_ble_eq_true rfl⟩ hlk (Nat.le_of_ble_eq_true rfl) (Nat.le_of_ble_eq_true rfl) (Or.inl ⟨rfl, (by unfold k_build; rw [if_pos c7])⟩)
set_option maxHeartbeats 4000000 in
set_option maxRecDepth 100000 in
theorem cX3_launch_ok (l : Launch) (D : va_G) (n : Nat) (ad cy sa : Nat → Nat) (sz : Nat) (hn : 28 ≤ n) (al : Nat → Nat → Int32) (ex : Nat → va_E) (x : Int32) (B : Nat) (hB : al 0 6 = nI B) (hB4 : B ≤ 4) (hfl : l.stackTraces = false) : vx_Met l yX3_launch wsX3_launch ({ frames := 6, cells := 1, slots := 6, locals := 110 }) (PW D n ad cy sa sz (cC cy ad al ex) [.ref (ad 0), .int x]) (QXi D n ad sz (k_launch al x) (v_launch al x) (cC cy ad (u_launch al x) ex)) (XW D n ad sz (zbad "java/lang/IllegalArgumentException" "java/lang/IllegalStateException" (k_launch al x)) (cC cy ad al ex)) 1 6 (Acc n ad sz) := by
  refine zs_vx (cc := cX3_launch) (maxL := 2) (ret := (some .int)) (own := RX3) (by decide) rfl rfl (Nat.le_of_ble_eq_true rfl) ?_
  intro p e s m args below meth c ls S hnx hE hW hr hlk hsz hav hl
  subst hsz
  have hx := S.1
  have hb := S.2.1
  have hown := S.2.2.2.1
  have hts := S.2.2.2.2
  have hl : lv_has ls 2 [(0, .ref (ad 0)), (1, .int x)] := hl
  have f121 := hts (.fieldLink RX3 121 "PumiceSledge" "boatCount" "I") (by decide +kernel)
  have hi3 : ∀ w ∈ wsX30, w ∈ wsX3_launch := by decide +kernel
  have f27 := hts (.fieldLink RX3 27 "PumiceSledge" "boats" "[LPumiceSledge$Boat;") (by decide +kernel)
  have hi0 : ∀ w ∈ wsX00, w ∈ wsX3_launch := by decide +kernel
  have x79 := hts (.classLink RX3 79 "java/lang/IllegalStateException") (by decide +kernel)
  have xi79 := hts (.initialized "java/lang/IllegalStateException") (by decide +kernel)
  have x62 := hts (.classLink RX3 62 "java/lang/IllegalArgumentException") (by decide +kernel)
  have xi62 := hts (.initialized "java/lang/IllegalArgumentException") (by decide +kernel)
  refine lv_iload_n hx hb dX3_launch_0 rfl (lv_at hl 1 rfl) ?_
  refine lv_bipush (v := 100) hx hb dX3_launch_1 (by decide) ?_
  refine lv_sipush (v := 900) hx hb dX3_launch_3 (by decide) ?_
  refine z_pS (As := [.int x, .int 100, .int 900]) (rest := []) S hE hW (cX3_isWithin_ok l x 100 900) (va_cwS 3 hts gX3_launch_X3_isWithin rfl rfl rfl (by decide +kernel) ⟨Nat.le_of_ble_eq_true rfl, Nat.le_of_ble_eq_true rfl⟩) rfl hl.1 rfl (Nat.le_of_ble_eq_true rfl) dX3_launch_6 ⟨Nat.le_of_ble_eq_true rfl, Nat.le_of_ble_eq_true rfl⟩ (fun H locs hW => ?_)
  refine lv_if_ne (tgt := 22) hx hb dX3_launch_9 (by decide) (fun c9 => ?_) (fun c9 => ?_)
  · have c9 := zb_t c9
    refine lv_aload_n hx hb dX3_launch_22 rfl (lv_at hl 0 rfl) ?_
    refine z_get (C := RX3) (T := TX3) (N := 12) (ci := 3) S hE hW hi3 rfl (Nat.lt_of_lt_of_le (by decide) hn) cC_0 6 (by decide) rfl f121 (v := .int (al 0 6)) rfl dX3_launch_23 ?_
    refine lv_iconst (v := 4) hx hb dX3_launch_26 (by decide) ?_
    refine lv_icmp_lt (tgt := 40) hx hb dX3_launch_27 (by decide) (fun c27 => ?_) (fun c27 => ?_)
    · have hlt : B < 4 := z_lt hB (by omega) (by decide) c27
      refine lv_aload_n hx hb dX3_launch_40 rfl (lv_at hl 0 rfl) ?_
      refine z_get (C := RX3) (T := TX3) (N := 12) (ci := 3) S hE hW hi3 rfl (Nat.lt_of_lt_of_le (by decide) hn) cC_0 5 (by decide) rfl f27 (v := .ref (ad 5)) rfl dX3_launch_41 ?_
      refine lv_aload_n hx hb dX3_launch_44 rfl (lv_at hl 0 rfl) ?_
      refine z_get (C := RX3) (T := TX3) (N := 12) (ci := 3) S hE hW hi3 rfl (Nat.lt_of_lt_of_le (by decide) hn) cC_0 6 (by decide) rfl f121 (v := .int (nI B)) (congrArg (fun z => some (Value.int z)) (hB)) dX3_launch_45 ?_
      refine z_aldq (t0 := 2) (C := RX0) S hE hW (Nat.lt_of_lt_of_le (by decide) hn) cC_5 rfl B rfl (by omega) (by decide) (v := .ref (ad (24 + B))) rfl dX3_launch_48 ?_
      refine lv_iload_n hx hb dX3_launch_49 rfl (lv_at hl 1 rfl) ?_
      refine z_putN (ce' := cC cy ad (zup al (24 + B) 0 x) ex) (C := RX0) (T := TX0) (N := 3) (ci := 0) S hE hW hi0 tyX0 tyX0_ok nmX0 rfl (Nat.lt_of_lt_of_le (kC_b hlt) hn) (cC_b (i := B) hlt) 0 (by decide) rfl 12 rfl rfl rfl (Nat.le_of_ble_eq_true rfl) (pC_b (i := B) hlt (by decide)) (fun j h => cC_o h) dX3_launch_50 (fun H locs hW => ?_)
      refine lv_aload_n hx hb dX3_launch_53 rfl (lv_at hl 0 rfl) ?_
      refine lv_dup hx hb dX3_launch_54 rfl ?_
      refine z_get (C := RX3) (T := TX3) (N := 12) (ci := 3) S hE hW hi3 rfl (Nat.lt_of_lt_of_le (by decide) hn) cC_0 6 (by decide) rfl f121 (v := .int (nI B)) (congrArg (fun z => some (Value.int z)) ((congrFun (zup_o (by omega)) 6).trans hB)) dX3_launch_55 ?_
      refine lv_iconst (v := 1) hx hb dX3_launch_58 (by decide) ?_
      refine lv_iadd hx hb dX3_launch_59 ?_
      refine z_put (ce' := cC cy ad (zup (zup al (24 + B) 0 x) 0 6 (nI B + 1)) ex) (C := RX3) (T := TX3) (N := 12) (ci := 3) S hE hW hi3 tyX3 tyX3_ok nmX3 rfl (Nat.lt_of_lt_of_le (by decide) hn) cC_0 6 (by decide) rfl f121 rfl rfl (Nat.le_of_ble_eq_true rfl) (pC_0 (by decide)) (fun j h => cC_o h) dX3_launch_60 (fun H locs hW => ?_)
      refine lv_aload_n hx hb dX3_launch_63 rfl (lv_at hl 0 rfl) ?_
      refine z_get (C := RX3) (T := TX3) (N := 12) (ci := 3) S hE hW hi3 rfl (Nat.lt_of_lt_of_le (by decide) hn) cC_0 6 (by decide) rfl f121 (v := .int (nI B + 1)) (congrArg (fun z => some (Value.int z)) ((congrFun zup_k 6).trans up_s)) dX3_launch_64 ?_
      refine lv_iconst (v := 1) hx hb dX3_launch_67 (by decide) ?_
      refine lv_isub hx hb dX3_launch_68 ?_
      exact zx_i S hW hr hlk () (congrArg (fun z => cC cy ad z ex) (by unfold u_launch; rw [hB, ix_nI (show B < 2 ^ 31 by omega)])) ⟨(by unfold k_launch; rw [if_neg (fun h => h c9), if_neg (fun h => h c27)]), (by unfold v_launch; rw [hB])⟩ (Nat.le_of_ble_eq_true rfl) (Nat.le_of_ble_eq_true rfl) dX3_launch_69
    · exact z_throw (E := "java/lang/IllegalStateException") 12 S hnx hE hW hfl (by decide) x79 xi79 (fun _ h => List.mem_cons_of_mem _ (List.mem_append_right _ h)) z_castS z_otS rfl hl.1 dX3_launch_30 dX3_launch_33 dX3_launch_34 dX3_launch_36 dX3_launch_39 ⟨Nat.le_of_ble_eq_true rfl, Nat.le_of_ble_eq_true rfl, Nat.le_of_ble_eq_true rfl, Nat.le_of_ble_eq_true rfl⟩ hlk (Nat.le_of_ble_eq_true rfl) (Nat.le_of_ble_eq_true rfl) (Or.inr ⟨rfl, (by unfold k_launch; rw [if_neg (fun h => h c9), if_pos c27])⟩)
  · have c9 := zb_f c9
    exact z_throw (E := "java/lang/IllegalArgumentException") 11 S hnx hE hW hfl (by decide) x62 xi62 (fun _ h => List.mem_cons_of_mem _ (List.mem_append_left _ (List.mem_append_right _ h))) z_castA z_otA rfl hl.1 dX3_launch_12 dX3_launch_15 dX3_launch_16 dX3_launch_18 dX3_launch_21 ⟨Nat.le_of_ble_eq_true rfl, Nat.le_of_ble_eq_true rfl, Nat.le_of_ble_eq_true rfl, Nat.le_of_ble_eq_true rfl⟩ hlk (Nat.le_of_ble_eq_true rfl) (Nat.le_of_ble_eq_true rfl) (Or.inl ⟨rfl, (by unfold k_launch; rw [if_pos c9])⟩)
set_option maxHeartbeats 4000000 in
set_option maxRecDepth 100000 in
theorem cX3_fill_ok (l : Launch) (D : va_G) (n : Nat) (ad cy sa : Nat → Nat) (sz : Nat) (hn : 28 ≤ n) (al : Nat → Nat → Int32) (ex : Nat → va_E) (x : Int32) (y : Int32) (N : Nat) (hN : al 0 4 = nI N) (hN6 : N ≤ 6) (hab : abOK al) (hfl : l.stackTraces = false) : vx_Met l yX3_fill wsX3_fill ({ frames := 6, cells := 1, slots := 6, locals := 110 }) (PW D n ad cy sa sz (cC cy ad al ex) [.ref (ad 0), .int x, .int y]) (QXi D n ad sz (k_fill al x y) (v_fill al x y) (cC cy ad (u_fill al x y) ex)) (XW D n ad sz (zbad "java/lang/IndexOutOfBoundsException" "java/lang/IllegalStateException" (k_fill al x y)) (cC cy ad al ex)) 1 6 (Acc n ad sz) := by
  refine zs_vx (cc := cX3_fill) (maxL := 5) (ret := (some .int)) (own := RX3) (by decide) rfl rfl (Nat.le_of_ble_eq_true rfl) ?_
  intro p e s m args below meth c ls S hnx hE hW hr hlk hsz hav hl
  subst hsz
  have hx := S.1
  have hb := S.2.1
  have hown := S.2.2.2.1
  have hts := S.2.2.2.2
  have hl : lv_has ls 5 [(0, .ref (ad 0)), (1, .int x), (2, .int y)] := hl
  have f21 := hts (.fieldLink RX3 21 "PumiceSledge" "sledges" "[LPumiceSledge$Sledge;") (by decide +kernel)
  have hi3 : ∀ w ∈ wsX30, w ∈ wsX3_fill := by decide +kernel
  have hi2 : ∀ w ∈ wsX20, w ∈ wsX3_fill := by decide +kernel
  have f9 := hts (.fieldLink RX3 9 "PumiceSledge" "stones" "[I") (by decide +kernel)
  have x79 := hts (.classLink RX3 79 "java/lang/IllegalStateException") (by decide +kernel)
  have xi79 := hts (.initialized "java/lang/IllegalStateException") (by decide +kernel)
  have x51 := hts (.classLink RX3 51 "java/lang/IndexOutOfBoundsException") (by decide +kernel)
  have xi51 := hts (.initialized "java/lang/IndexOutOfBoundsException") (by decide +kernel)
  refine lv_aload_n hx hb dX3_fill_0 rfl (lv_at hl 0 rfl) ?_
  refine lv_iload_n hx hb dX3_fill_1 rfl (lv_at hl 1 rfl) ?_
  refine z_cVi (As := [.int x]) (rest := []) (k := 0) S hE hW (cX3_isSledge_ok l D n ad cy sa s.heap.size hn al ex x) (cwV 1 hts gX3_fill_X3_isSledge rfl rfl rfl (by decide +kernel) ⟨Nat.le_of_ble_eq_true rfl, Nat.le_of_ble_eq_true rfl⟩) (Nat.lt_of_lt_of_le (by decide) hn) cC_0 rfl rfl rfl hl.1 rfl (Nat.le_of_ble_eq_true rfl) dX3_fill_2 ⟨Nat.le_of_ble_eq_true rfl, Nat.le_of_ble_eq_true rfl⟩ (fun r _ H locs hp hW => ?_)
  subst hp
  refine lv_if_ne (tgt := 18) hx hb dX3_fill_5 (by decide) (fun c5 => ?_) (fun c5 => ?_)
  · have c5 := zb_t c5
    refine lv_iload_n hx hb dX3_fill_18 rfl (lv_at hl 2 rfl) ?_
    refine z_pS (As := [.int y]) (rest := []) S hE hW (cX3_isLayer_ok l y) (va_cwS 1 hts gX3_fill_X3_isLayer rfl rfl rfl (by decide +kernel) ⟨Nat.le_of_ble_eq_true rfl, Nat.le_of_ble_eq_true rfl⟩) rfl hl.1 rfl (Nat.le_of_ble_eq_true rfl) dX3_fill_19 ⟨Nat.le_of_ble_eq_true rfl, Nat.le_of_ble_eq_true rfl⟩ (fun H locs hW => ?_)
    refine lv_if_ne (tgt := 35) hx hb dX3_fill_22 (by decide) (fun c22 => ?_) (fun c22 => ?_)
    · have c22 := zb_t c22
      obtain ⟨i, hi, rfl⟩ := zS_ex hN (by omega) c5
      obtain ⟨j, hj, rfl⟩ := zIn_ex 4 rfl (by decide) c22
      obtain ⟨a, ha, ha8⟩ := hab i (by omega)
      refine lv_aload_n hx hb dX3_fill_35 rfl (lv_at hl 0 rfl) ?_
      refine z_get (C := RX3) (T := TX3) (N := 12) (ci := 3) S hE hW hi3 rfl (Nat.lt_of_lt_of_le (by decide) hn) cC_0 3 (by decide) rfl f21 (v := .ref (ad 4)) rfl dX3_fill_36 ?_
      refine lv_iload_n hx hb dX3_fill_39 rfl (lv_at hl 1 rfl) ?_
      refine z_aldq (t0 := 1) (C := RX2) S hE hW (Nat.lt_of_lt_of_le (by decide) hn) cC_4 rfl i rfl (by omega) (by decide) (v := .ref (ad (10 + i))) rfl dX3_fill_40 ?_
      refine lv_astore_n (lv' := [(3, .ref (ad (10 + i))), (0, .ref (ad 0)), (1, .int (nI i)), (2, .int (nI j))]) hx hb dX3_fill_41 rfl hl (by decide) rfl (fun ls hl => ?_)
      refine lv_aload_n hx hb dX3_fill_42 rfl (lv_at hl 0 rfl) ?_
      refine z_getN (C := RX2) (T := TX2) (N := 5) (ci := 2) S hE hW hi2 rfl (Nat.lt_of_lt_of_le (kC_s (by omega)) hn) (cC_s (i := i) (by omega)) 4 (by decide) rfl 10 rfl (v := .int (al (10 + i) 4)) rfl dX3_fill_43 ?_
      refine lv_if_eq (tgt := 59) hx hb dX3_fill_46 (by decide) (fun c46 => ?_) (fun c46 => ?_)
      · refine lv_aload_n hx hb dX3_fill_59 rfl (lv_at hl 0 rfl) ?_
        refine z_cVi (As := []) (rest := []) (k := (10 + i)) S hE hW (cX2_isFull_ok l D n ad cy sa H.size hn al ex i (by omega) ) (cwV 0 hts gX3_fill_X2_isFull rfl rfl rfl (by decide +kernel) ⟨Nat.le_of_ble_eq_true rfl, Nat.le_of_ble_eq_true rfl⟩) (Nat.lt_of_lt_of_le (kC_s (by omega)) hn) (cC_s (i := i) (by omega)) rfl rfl rfl hl.1 rfl (Nat.le_of_ble_eq_true rfl) dX3_fill_60 ⟨Nat.le_of_ble_eq_true rfl, Nat.le_of_ble_eq_true rfl⟩ (fun r _ H locs hp hW => ?_)
        subst hp
        refine lv_if_eq (tgt := 76) hx hb dX3_fill_63 (by decide) (fun c63 => ?_) (fun c63 => ?_)
        · have c63 := zb_f c63
          refine lv_aload_n hx hb dX3_fill_76 rfl (lv_at hl 1 rfl) ?_
          refine z_get (C := RX3) (T := TX3) (N := 12) (ci := 3) S hE hW hi3 rfl (Nat.lt_of_lt_of_le (by decide) hn) cC_0 0 (by decide) rfl f9 (v := .ref (ad 1)) rfl dX3_fill_77 ?_
          refine lv_iload_n hx hb dX3_fill_80 rfl (lv_at hl 3 rfl) ?_
          refine z_ald S hE hW (Nat.lt_of_lt_of_le (by decide) hn) cC_1 j rfl (by omega) (by decide) (v := al 1 j) rfl dX3_fill_81 ?_
          refine lv_bipush (v := 10) hx hb dX3_fill_82 (by decide) ?_
          refine lv_icmp_ge (tgt := 97) hx hb dX3_fill_84 (by decide) (fun c84 => ?_) (fun c84 => ?_)
          · have ha9 : a < 8 := z_nfull ha ha8 c63
            refine lv_aload_n hx hb dX3_fill_97 rfl (lv_at hl 1 rfl) ?_
            refine z_get (C := RX3) (T := TX3) (N := 12) (ci := 3) S hE hW hi3 rfl (Nat.lt_of_lt_of_le (by decide) hn) cC_0 0 (by decide) rfl f9 (v := .ref (ad 1)) rfl dX3_fill_98 ?_
            refine lv_iload_n hx hb dX3_fill_101 rfl (lv_at hl 3 rfl) ?_
            refine lv_dup2_11 hx hb dX3_fill_102 rfl rfl ?_
            refine z_ald S hE hW (Nat.lt_of_lt_of_le (by decide) hn) cC_1 j rfl (by omega) (by decide) (v := al 1 j) rfl dX3_fill_103 ?_
            refine lv_bipush (v := 10) hx hb dX3_fill_104 (by decide) ?_
            refine lv_isub hx hb dX3_fill_106 ?_
            refine z_ast (ce' := cC cy ad (zup al 1 j (al 1 j - 10)) ex) S hE hW (Nat.lt_of_lt_of_le (by decide) hn) cC_1 j rfl (by omega) (by decide) pC_1 (fun j h => cC_o h) dX3_fill_107 (fun H locs hW => ?_)
            refine lv_aload_n hx hb dX3_fill_108 rfl (lv_at hl 1 rfl) ?_
            refine lv_iload_n hx hb dX3_fill_109 rfl (lv_at hl 3 rfl) ?_
            refine z_cVi (As := [.int (nI j)]) (rest := []) (k := 0) S hE hW (cX3_sackWeight_ok l D n ad cy sa H.size hn (zup al 1 j (al 1 j - 10)) ex j (by omega)) (cwV 1 hts gX3_fill_X3_sackWeight rfl rfl rfl (by decide +kernel) ⟨Nat.le_of_ble_eq_true rfl, Nat.le_of_ble_eq_true rfl⟩) (Nat.lt_of_lt_of_le (by decide) hn) cC_0 rfl rfl rfl hl.1 rfl (Nat.le_of_ble_eq_true rfl) dX3_fill_110 ⟨Nat.le_of_ble_eq_true rfl, Nat.le_of_ble_eq_true rfl⟩ (fun r _ H locs hp hW => ?_)
            subst hp
            refine z_top2 (y := 10 * al 2 j) (by rw [zup_o (show 2 ≠ 1 by decide)]) ?_
            refine lv_istore (lv' := [(4, .int (10 * al 2 j)), (3, .ref (ad (10 + i))), (0, .ref (ad 0)), (1, .int (nI i)), (2, .int (nI j))]) hx hb dX3_fill_113 hl (by decide) rfl (fun ls hl => ?_)
            refine lv_aload_n hx hb dX3_fill_115 rfl (lv_at hl 1 rfl) ?_
            refine lv_iload hx hb dX3_fill_116 (lv_at hl 0 rfl) ?_
            refine z_cVv (As := [.int (10 * al 2 j)]) (rest := []) (k := (10 + i)) S hE hW (cX2_load_ok l D n ad cy sa H.size hn (zup al 1 j (al 1 j - 10)) ex i (by omega) a ((congrFun (zup_o (by omega)) 2).trans ha) ha9 (by rw [zup_o (show 10 + i ≠ 1 by omega)]; exact c63) (10 * al 2 j)) (cwV 1 hts gX3_fill_X2_load rfl rfl rfl (by decide +kernel) ⟨Nat.le_of_ble_eq_true rfl, Nat.le_of_ble_eq_true rfl⟩) (Nat.lt_of_lt_of_le (kC_s (by omega)) hn) (cC_s (i := i) (by omega)) rfl rfl rfl hl.1 rfl (Nat.le_of_ble_eq_true rfl) dX3_fill_118 ⟨Nat.le_of_ble_eq_true rfl, Nat.le_of_ble_eq_true rfl⟩ (fun _ H locs _ hW => ?_)
            refine lv_iload hx hb dX3_fill_121 (lv_at hl 0 rfl) ?_
            refine z_pS (As := [.int (10 * al 2 j)]) (rest := []) S hE hW (cX3_kindOf_ok l (10 * al 2 j)) (va_cwS 1 hts gX3_fill_X3_kindOf rfl rfl rfl (by decide +kernel) ⟨Nat.le_of_ble_eq_true rfl, Nat.le_of_ble_eq_true rfl⟩) rfl hl.1 rfl (Nat.le_of_ble_eq_true rfl) dX3_fill_123 ⟨Nat.le_of_ble_eq_true rfl, Nat.le_of_ble_eq_true rfl⟩ (fun H locs hW => ?_)
            exact zx_i S hW hr hlk () (congrArg (fun z => cC cy ad z ex) (by unfold u_fill; rw [ix_nI (show i < 2 ^ 31 by omega), ix_nI (show j < 2 ^ 31 by omega), zup_o (show 10 + i ≠ 1 by omega), ha, ix_nI (show a < 2 ^ 31 by omega)])) ⟨(by unfold k_fill; simp only [ix_nI (show i < 2 ^ 31 by omega), ix_nI (show j < 2 ^ 31 by omega)]; rw [if_neg (fun h => h c5), if_neg (fun h => h c22), if_neg (fun h => h c46), if_neg c63, if_neg (fun h => h c84)]), (by unfold v_fill; rw [ix_nI (show j < 2 ^ 31 by omega)])⟩ (Nat.le_of_ble_eq_true rfl) (Nat.le_of_ble_eq_true rfl) dX3_fill_126
          · exact z_throw (E := "java/lang/IllegalStateException") 10 S hnx hE hW hfl (by decide) x79 xi79 (fun _ h => List.mem_cons_of_mem _ (List.mem_append_right _ h)) z_castS z_otS rfl hl.1 dX3_fill_87 dX3_fill_90 dX3_fill_91 dX3_fill_93 dX3_fill_96 ⟨Nat.le_of_ble_eq_true rfl, Nat.le_of_ble_eq_true rfl, Nat.le_of_ble_eq_true rfl, Nat.le_of_ble_eq_true rfl⟩ hlk (Nat.le_of_ble_eq_true rfl) (Nat.le_of_ble_eq_true rfl) (Or.inr ⟨rfl, (by unfold k_fill; simp only [ix_nI (show i < 2 ^ 31 by omega), ix_nI (show j < 2 ^ 31 by omega)]; rw [if_neg (fun h => h c5), if_neg (fun h => h c22), if_neg (fun h => h c46), if_neg c63, if_pos c84])⟩)
        · have c63 := zb_t c63
          exact z_throw (E := "java/lang/IllegalStateException") 9 S hnx hE hW hfl (by decide) x79 xi79 (fun _ h => List.mem_cons_of_mem _ (List.mem_append_right _ h)) z_castS z_otS rfl hl.1 dX3_fill_66 dX3_fill_69 dX3_fill_70 dX3_fill_72 dX3_fill_75 ⟨Nat.le_of_ble_eq_true rfl, Nat.le_of_ble_eq_true rfl, Nat.le_of_ble_eq_true rfl, Nat.le_of_ble_eq_true rfl⟩ hlk (Nat.le_of_ble_eq_true rfl) (Nat.le_of_ble_eq_true rfl) (Or.inr ⟨rfl, (by unfold k_fill; simp only [ix_nI (show i < 2 ^ 31 by omega), ix_nI (show j < 2 ^ 31 by omega)]; rw [if_neg (fun h => h c5), if_neg (fun h => h c22), if_neg (fun h => h c46), if_pos c63])⟩)
      · exact z_throw (E := "java/lang/IllegalStateException") 8 S hnx hE hW hfl (by decide) x79 xi79 (fun _ h => List.mem_cons_of_mem _ (List.mem_append_right _ h)) z_castS z_otS rfl hl.1 dX3_fill_49 dX3_fill_52 dX3_fill_53 dX3_fill_55 dX3_fill_58 ⟨Nat.le_of_ble_eq_true rfl, Nat.le_of_ble_eq_true rfl, Nat.le_of_ble_eq_true rfl, Nat.le_of_ble_eq_true rfl⟩ hlk (Nat.le_of_ble_eq_true rfl) (Nat.le_of_ble_eq_true rfl) (Or.inr ⟨rfl, (by unfold k_fill; simp only [ix_nI (show i < 2 ^ 31 by omega), ix_nI (show j < 2 ^ 31 by omega)]; rw [if_neg (fun h => h c5), if_neg (fun h => h c22), if_pos c46])⟩)
    · have c22 := zb_f c22
      exact z_throw (E := "java/lang/IndexOutOfBoundsException") 0 S hnx hE hW hfl (by decide) x51 xi51 (fun _ h => List.mem_cons_of_mem _ (List.mem_append_left _ (List.mem_append_right _ h))) z_castI z_otI rfl hl.1 dX3_fill_25 dX3_fill_28 dX3_fill_29 dX3_fill_31 dX3_fill_34 ⟨Nat.le_of_ble_eq_true rfl, Nat.le_of_ble_eq_true rfl, Nat.le_of_ble_eq_true rfl, Nat.le_of_ble_eq_true rfl⟩ hlk (Nat.le_of_ble_eq_true rfl) (Nat.le_of_ble_eq_true rfl) (Or.inl ⟨rfl, (by unfold k_fill; rw [if_neg (fun h => h c5), if_pos c22])⟩)
  · have c5 := zb_f c5
    exact z_throw (E := "java/lang/IndexOutOfBoundsException") 7 S hnx hE hW hfl (by decide) x51 xi51 (fun _ h => List.mem_cons_of_mem _ (List.mem_append_left _ (List.mem_append_right _ h))) z_castI z_otI rfl hl.1 dX3_fill_8 dX3_fill_11 dX3_fill_12 dX3_fill_14 dX3_fill_17 ⟨Nat.le_of_ble_eq_true rfl, Nat.le_of_ble_eq_true rfl, Nat.le_of_ble_eq_true rfl, Nat.le_of_ble_eq_true rfl⟩ hlk (Nat.le_of_ble_eq_true rfl) (Nat.le_of_ble_eq_true rfl) (Or.inl ⟨rfl, (by unfold k_fill; rw [if_pos c5])⟩)
set_option maxHeartbeats 4000000 in
set_option maxRecDepth 100000 in
theorem cX3_go_ok (l : Launch) (D : va_G) (n : Nat) (ad cy sa : Nat → Nat) (sz : Nat) (hn : 28 ≤ n) (al : Nat → Nat → Int32) (ex : Nat → va_E) (x : Int32) (N : Nat) (hN : al 0 4 = nI N) (hN6 : N ≤ 6) (hfl : l.stackTraces = false) : vx_Met l yX3_go wsX3_go ({ frames := 6, cells := 1, slots := 6, locals := 110 }) (PW D n ad cy sa sz (cC cy ad al ex) [.ref (ad 0), .int x]) (QXi D n ad sz (k_go al x) (v_go al x) (cC cy ad (u_go al x) ex)) (XW D n ad sz (zbad "java/lang/IndexOutOfBoundsException" "java/lang/IllegalStateException" (k_go al x)) (cC cy ad al ex)) 1 6 (Acc n ad sz) := by
  refine zs_vx (cc := cX3_go) (maxL := 3) (ret := (some .int)) (own := RX3) (by decide) rfl rfl (Nat.le_of_ble_eq_true rfl) ?_
  intro p e s m args below meth c ls S hnx hE hW hr hlk hsz hav hl
  subst hsz
  have hx := S.1
  have hb := S.2.1
  have hown := S.2.2.2.1
  have hts := S.2.2.2.2
  have hl : lv_has ls 3 [(0, .ref (ad 0)), (1, .int x)] := hl
  have f21 := hts (.fieldLink RX3 21 "PumiceSledge" "sledges" "[LPumiceSledge$Sledge;") (by decide +kernel)
  have hi3 : ∀ w ∈ wsX30, w ∈ wsX3_go := by decide +kernel
  have hi2 : ∀ w ∈ wsX20, w ∈ wsX3_go := by decide +kernel
  have x79 := hts (.classLink RX3 79 "java/lang/IllegalStateException") (by decide +kernel)
  have xi79 := hts (.initialized "java/lang/IllegalStateException") (by decide +kernel)
  have x51 := hts (.classLink RX3 51 "java/lang/IndexOutOfBoundsException") (by decide +kernel)
  have xi51 := hts (.initialized "java/lang/IndexOutOfBoundsException") (by decide +kernel)
  refine lv_aload_n hx hb dX3_go_0 rfl (lv_at hl 0 rfl) ?_
  refine lv_iload_n hx hb dX3_go_1 rfl (lv_at hl 1 rfl) ?_
  refine z_cVi (As := [.int x]) (rest := []) (k := 0) S hE hW (cX3_isSledge_ok l D n ad cy sa s.heap.size hn al ex x) (cwV 1 hts gX3_go_X3_isSledge rfl rfl rfl (by decide +kernel) ⟨Nat.le_of_ble_eq_true rfl, Nat.le_of_ble_eq_true rfl⟩) (Nat.lt_of_lt_of_le (by decide) hn) cC_0 rfl rfl rfl hl.1 rfl (Nat.le_of_ble_eq_true rfl) dX3_go_2 ⟨Nat.le_of_ble_eq_true rfl, Nat.le_of_ble_eq_true rfl⟩ (fun r _ H locs hp hW => ?_)
  subst hp
  refine lv_if_ne (tgt := 18) hx hb dX3_go_5 (by decide) (fun c5 => ?_) (fun c5 => ?_)
  · have c5 := zb_t c5
    obtain ⟨i, hi, rfl⟩ := zS_ex hN (by omega) c5
    refine lv_aload_n hx hb dX3_go_18 rfl (lv_at hl 0 rfl) ?_
    refine z_get (C := RX3) (T := TX3) (N := 12) (ci := 3) S hE hW hi3 rfl (Nat.lt_of_lt_of_le (by decide) hn) cC_0 3 (by decide) rfl f21 (v := .ref (ad 4)) rfl dX3_go_19 ?_
    refine lv_iload_n hx hb dX3_go_22 rfl (lv_at hl 1 rfl) ?_
    refine z_aldq (t0 := 1) (C := RX2) S hE hW (Nat.lt_of_lt_of_le (by decide) hn) cC_4 rfl i rfl (by omega) (by decide) (v := .ref (ad (10 + i))) rfl dX3_go_23 ?_
    refine lv_astore_n (lv' := [(2, .ref (ad (10 + i))), (0, .ref (ad 0)), (1, .int (nI i))]) hx hb dX3_go_24 rfl hl (by decide) rfl (fun ls hl => ?_)
    refine lv_aload_n hx hb dX3_go_25 rfl (lv_at hl 0 rfl) ?_
    refine z_getN (C := RX2) (T := TX2) (N := 5) (ci := 2) S hE hW hi2 rfl (Nat.lt_of_lt_of_le (kC_s (by omega)) hn) (cC_s (i := i) (by omega)) 4 (by decide) rfl 10 rfl (v := .int (al (10 + i) 4)) rfl dX3_go_26 ?_
    refine lv_if_eq (tgt := 42) hx hb dX3_go_29 (by decide) (fun c29 => ?_) (fun c29 => ?_)
    · refine lv_aload_n hx hb dX3_go_42 rfl (lv_at hl 0 rfl) ?_
      refine lv_iconst (v := 1) hx hb dX3_go_43 (by decide) ?_
      refine z_putN (ce' := cC cy ad (zup al (10 + i) 4 1) ex) (C := RX2) (T := TX2) (N := 5) (ci := 2) S hE hW hi2 tyX2 tyX2_ok nmX2 rfl (Nat.lt_of_lt_of_le (kC_s (by omega)) hn) (cC_s (i := i) (by omega)) 4 (by decide) rfl 10 rfl rfl rfl (Nat.le_of_ble_eq_true rfl) (pC_s (i := i) (by omega) (by decide)) (fun j h => cC_o h) dX3_go_44 (fun H locs hW => ?_)
      refine lv_aload_n hx hb dX3_go_47 rfl (lv_at hl 0 rfl) ?_
      refine z_getN (C := RX2) (T := TX2) (N := 5) (ci := 2) S hE hW hi2 rfl (Nat.lt_of_lt_of_le (kC_s (by omega)) hn) (cC_s (i := i) (by omega)) 2 (by decide) rfl 8 rfl (v := .int (al (10 + i) 2)) (congrArg (fun z => some (Value.int z)) ((congrFun zup_k 2).trans (up_n (by decide)))) dX3_go_48 ?_
      exact zx_i S hW hr hlk () (congrArg (fun z => cC cy ad z ex) (by unfold u_go; rw [ix_nI (show i < 2 ^ 31 by omega)])) ⟨(by unfold k_go; simp only [ix_nI (show i < 2 ^ 31 by omega)]; rw [if_neg (fun h => h c5), if_neg (fun h => h c29)]), (by unfold v_go; rw [ix_nI (show i < 2 ^ 31 by omega)])⟩ (Nat.le_of_ble_eq_true rfl) (Nat.le_of_ble_eq_true rfl) dX3_go_51
    · exact z_throw (E := "java/lang/IllegalStateException") 8 S hnx hE hW hfl (by decide) x79 xi79 (fun _ h => List.mem_cons_of_mem _ (List.mem_append_right _ h)) z_castS z_otS rfl hl.1 dX3_go_32 dX3_go_35 dX3_go_36 dX3_go_38 dX3_go_41 ⟨Nat.le_of_ble_eq_true rfl, Nat.le_of_ble_eq_true rfl, Nat.le_of_ble_eq_true rfl, Nat.le_of_ble_eq_true rfl⟩ hlk (Nat.le_of_ble_eq_true rfl) (Nat.le_of_ble_eq_true rfl) (Or.inr ⟨rfl, (by unfold k_go; simp only [ix_nI (show i < 2 ^ 31 by omega)]; rw [if_neg (fun h => h c5), if_pos c29])⟩)
  · have c5 := zb_f c5
    exact z_throw (E := "java/lang/IndexOutOfBoundsException") 7 S hnx hE hW hfl (by decide) x51 xi51 (fun _ h => List.mem_cons_of_mem _ (List.mem_append_left _ (List.mem_append_right _ h))) z_castI z_otI rfl hl.1 dX3_go_8 dX3_go_11 dX3_go_12 dX3_go_14 dX3_go_17 ⟨Nat.le_of_ble_eq_true rfl, Nat.le_of_ble_eq_true rfl, Nat.le_of_ble_eq_true rfl, Nat.le_of_ble_eq_true rfl⟩ hlk (Nat.le_of_ble_eq_true rfl) (Nat.le_of_ble_eq_true rfl) (Or.inl ⟨rfl, (by unfold k_go; rw [if_pos c5])⟩)
set_option maxHeartbeats 4000000 in
set_option maxRecDepth 100000 in
theorem cX3_stow_ok (l : Launch) (D : va_G) (n : Nat) (ad cy sa : Nat → Nat) (sz : Nat) (hn : 28 ≤ n) (al : Nat → Nat → Int32) (ex : Nat → va_E) (x : Int32) (y : Int32) (z : Int32) (B : Nat) (hB : al 0 6 = nI B) (hB4 : B ≤ 4) (hfl : l.stackTraces = false) : vx_Met l yX3_stow wsX3_stow ({ frames := 6, cells := 1, slots := 6, locals := 110 }) (PW D n ad cy sa sz (cC cy ad al ex) [.ref (ad 0), .int x, .int y, .int z]) (QXi D n ad sz (k_stow al x y z) (v_stow al x y z) (cC cy ad (u_stow al x y z) ex)) (XW D n ad sz (zbad "java/lang/IndexOutOfBoundsException" "java/lang/IllegalStateException" (k_stow al x y z)) (cC cy ad al ex)) 1 6 (Acc n ad sz) := by
  refine zs_vx (cc := cX3_stow) (maxL := 6) (ret := (some .int)) (own := RX3) (by decide) rfl rfl (Nat.le_of_ble_eq_true rfl) ?_
  intro p e s m args below meth c ls S hnx hE hW hr hlk hsz hav hl
  subst hsz
  have hx := S.1
  have hb := S.2.1
  have hown := S.2.2.2.1
  have hts := S.2.2.2.2
  have hl : lv_has ls 6 [(0, .ref (ad 0)), (1, .int x), (2, .int y), (3, .int z)] := hl
  have f27 := hts (.fieldLink RX3 27 "PumiceSledge" "boats" "[LPumiceSledge$Boat;") (by decide +kernel)
  have hi3 : ∀ w ∈ wsX30, w ∈ wsX3_stow := by decide +kernel
  have f34 := hts (.fieldLink RX3 34 "PumiceSledge" "shore" "LPumiceSledge$Shore;") (by decide +kernel)
  have hi1 : ∀ w ∈ wsX10, w ∈ wsX3_stow := by decide +kernel
  have hi0 : ∀ w ∈ wsX00, w ∈ wsX3_stow := by decide +kernel
  have x79 := hts (.classLink RX3 79 "java/lang/IllegalStateException") (by decide +kernel)
  have xi79 := hts (.initialized "java/lang/IllegalStateException") (by decide +kernel)
  have x51 := hts (.classLink RX3 51 "java/lang/IndexOutOfBoundsException") (by decide +kernel)
  have xi51 := hts (.initialized "java/lang/IndexOutOfBoundsException") (by decide +kernel)
  refine lv_aload_n hx hb dX3_stow_0 rfl (lv_at hl 0 rfl) ?_
  refine lv_iload_n hx hb dX3_stow_1 rfl (lv_at hl 1 rfl) ?_
  refine z_cVi (As := [.int x]) (rest := []) (k := 0) S hE hW (cX3_isBoat_ok l D n ad cy sa s.heap.size hn al ex x) (cwV 1 hts gX3_stow_X3_isBoat rfl rfl rfl (by decide +kernel) ⟨Nat.le_of_ble_eq_true rfl, Nat.le_of_ble_eq_true rfl⟩) (Nat.lt_of_lt_of_le (by decide) hn) cC_0 rfl rfl rfl hl.1 rfl (Nat.le_of_ble_eq_true rfl) dX3_stow_2 ⟨Nat.le_of_ble_eq_true rfl, Nat.le_of_ble_eq_true rfl⟩ (fun r _ H locs hp hW => ?_)
  subst hp
  refine lv_if_ne (tgt := 18) hx hb dX3_stow_5 (by decide) (fun c5 => ?_) (fun c5 => ?_)
  · have c5 := zb_t c5
    refine lv_iload_n hx hb dX3_stow_18 rfl (lv_at hl 2 rfl) ?_
    refine z_pS (As := [.int y]) (rest := []) S hE hW (cX3_isKind_ok l y) (va_cwS 1 hts gX3_stow_X3_isKind rfl rfl rfl (by decide +kernel) ⟨Nat.le_of_ble_eq_true rfl, Nat.le_of_ble_eq_true rfl⟩) rfl hl.1 rfl (Nat.le_of_ble_eq_true rfl) dX3_stow_19 ⟨Nat.le_of_ble_eq_true rfl, Nat.le_of_ble_eq_true rfl⟩ (fun H locs hW => ?_)
    refine lv_if_ne (tgt := 35) hx hb dX3_stow_22 (by decide) (fun c22 => ?_) (fun c22 => ?_)
    · have c22 := zb_t c22
      obtain ⟨i, hi, rfl⟩ := zS_ex hB (by omega) c5
      obtain ⟨j, hj, rfl⟩ := zIn_ex 2 rfl (by decide) c22
      refine lv_aload_n hx hb dX3_stow_35 rfl (lv_at hl 0 rfl) ?_
      refine z_get (C := RX3) (T := TX3) (N := 12) (ci := 3) S hE hW hi3 rfl (Nat.lt_of_lt_of_le (by decide) hn) cC_0 5 (by decide) rfl f27 (v := .ref (ad 5)) rfl dX3_stow_36 ?_
      refine lv_iload_n hx hb dX3_stow_39 rfl (lv_at hl 1 rfl) ?_
      refine z_aldq (t0 := 2) (C := RX0) S hE hW (Nat.lt_of_lt_of_le (by decide) hn) cC_5 rfl i rfl (by omega) (by decide) (v := .ref (ad (24 + i))) rfl dX3_stow_40 ?_
      refine lv_astore (lv' := [(4, .ref (ad (24 + i))), (0, .ref (ad 0)), (1, .int (nI i)), (2, .int (nI j)), (3, .int z)]) hx hb dX3_stow_41 hl (by decide) rfl (fun ls hl => ?_)
      refine lv_iload_n hx hb dX3_stow_43 rfl (lv_at hl 3 rfl) ?_
      refine z_pS (As := [.int (nI j)]) (rest := []) S hE hW (cX3_stowedWeight_ok l j (by omega)) (va_cwS 1 hts gX3_stow_X3_stowedWeight rfl rfl rfl (by decide +kernel) ⟨Nat.le_of_ble_eq_true rfl, Nat.le_of_ble_eq_true rfl⟩) rfl hl.1 rfl (Nat.le_of_ble_eq_true rfl) dX3_stow_44 ⟨Nat.le_of_ble_eq_true rfl, Nat.le_of_ble_eq_true rfl⟩ (fun H locs hW => ?_)
      refine lv_istore (lv' := [(5, .int (stw (nI j))), (4, .ref (ad (24 + i))), (0, .ref (ad 0)), (1, .int (nI i)), (2, .int (nI j)), (3, .int z)]) hx hb dX3_stow_47 hl (by decide) rfl (fun ls hl => ?_)
      refine lv_aload_n hx hb dX3_stow_49 rfl (lv_at hl 2 rfl) ?_
      refine z_get (C := RX3) (T := TX3) (N := 12) (ci := 3) S hE hW hi3 rfl (Nat.lt_of_lt_of_le (by decide) hn) cC_0 7 (by decide) rfl f34 (v := .ref (ad (6 + 0))) rfl dX3_stow_50 ?_
      refine z_getN (C := RX1) (T := TX1) (N := 2) (ci := 1) S hE hW hi1 rfl (Nat.lt_of_lt_of_le (kC_h (by decide)) hn) (cC_h (i := 0) (by decide)) 0 (by decide) rfl 1 rfl (v := .ref (ad (8 + 0))) rfl dX3_stow_53 ?_
      refine lv_iload_n hx hb dX3_stow_56 rfl (lv_at hl 4 rfl) ?_
      refine z_ald S hE hW (Nat.lt_of_lt_of_le (kC_hs (by decide)) hn) (cC_hs (i := 0) (by decide)) j rfl (by omega) (by decide) (v := al (8 + 0) j) rfl dX3_stow_57 ?_
      refine lv_iconst (v := 1) hx hb dX3_stow_58 (by decide) ?_
      refine lv_icmp_ge (tgt := 72) hx hb dX3_stow_59 (by decide) (fun c59 => ?_) (fun c59 => ?_)
      · refine lv_iload hx hb dX3_stow_72 (lv_at hl 0 rfl) ?_
        refine lv_aload hx hb dX3_stow_74 (lv_at hl 1 rfl) ?_
        refine z_cVi (As := []) (rest := [.int (stw (nI j))]) (k := (24 + i)) S hE hW (cX0_room_ok l D n ad cy sa H.size hn al ex i (by omega)) (cwV 0 hts gX3_stow_X0_room rfl rfl rfl (by decide +kernel) ⟨Nat.le_of_ble_eq_true rfl, Nat.le_of_ble_eq_true rfl⟩) (Nat.lt_of_lt_of_le (kC_b (by omega)) hn) (cC_b (i := i) (by omega)) rfl rfl rfl hl.1 rfl (Nat.le_of_ble_eq_true rfl) dX3_stow_76 ⟨Nat.le_of_ble_eq_true rfl, Nat.le_of_ble_eq_true rfl⟩ (fun r _ H locs hp hW => ?_)
        subst hp
        refine lv_icmp_le (tgt := 92) hx hb dX3_stow_79 (by decide) (fun c79 => ?_) (fun c79 => ?_)
        · refine lv_aload_n hx hb dX3_stow_92 rfl (lv_at hl 2 rfl) ?_
          refine z_get (C := RX3) (T := TX3) (N := 12) (ci := 3) S hE hW hi3 rfl (Nat.lt_of_lt_of_le (by decide) hn) cC_0 7 (by decide) rfl f34 (v := .ref (ad (6 + 0))) rfl dX3_stow_93 ?_
          refine z_getN (C := RX1) (T := TX1) (N := 2) (ci := 1) S hE hW hi1 rfl (Nat.lt_of_lt_of_le (kC_h (by decide)) hn) (cC_h (i := 0) (by decide)) 0 (by decide) rfl 1 rfl (v := .ref (ad (8 + 0))) rfl dX3_stow_96 ?_
          refine lv_iload_n hx hb dX3_stow_99 rfl (lv_at hl 4 rfl) ?_
          refine lv_dup2_11 hx hb dX3_stow_100 rfl rfl ?_
          refine z_ald S hE hW (Nat.lt_of_lt_of_le (kC_hs (by decide)) hn) (cC_hs (i := 0) (by decide)) j rfl (by omega) (by decide) (v := al (8 + 0) j) rfl dX3_stow_101 ?_
          refine lv_iconst (v := 1) hx hb dX3_stow_102 (by decide) ?_
          refine lv_isub hx hb dX3_stow_103 ?_
          refine z_ast (ce' := cC cy ad (zup al (8 + 0) j (al (8 + 0) j - 1)) ex) S hE hW (Nat.lt_of_lt_of_le (kC_hs (by decide)) hn) (cC_hs (i := 0) (by decide)) j rfl (by omega) (by decide) (pC_hs (i := 0) (by decide)) (fun j h => cC_o h) dX3_stow_104 (fun H locs hW => ?_)
          refine lv_iload_n hx hb dX3_stow_105 rfl (lv_at hl 5 rfl) ?_
          refine lv_if_eq (tgt := 124) hx hb dX3_stow_106 (by decide) (fun c106 => ?_) (fun c106 => ?_)
          · refine lv_aload hx hb dX3_stow_124 (lv_at hl 1 rfl) ?_
            refine lv_dup hx hb dX3_stow_126 rfl ?_
            refine z_getN (C := RX0) (T := TX0) (N := 3) (ci := 0) S hE hW hi0 rfl (Nat.lt_of_lt_of_le (kC_b (by omega)) hn) (cC_b (i := i) (by omega)) 2 (by decide) rfl 14 rfl (v := .int (al (24 + i) 2)) (congrArg (fun z => some (Value.int z)) (congrFun (zup_o (by omega)) 2)) dX3_stow_127 ?_
            refine lv_iload hx hb dX3_stow_130 (lv_at hl 0 rfl) ?_
            refine lv_iadd hx hb dX3_stow_132 ?_
            refine z_putN (ce' := cC cy ad (zup (zup al (8 + 0) j (al (8 + 0) j - 1)) (24 + i) 2 (al (24 + i) 2 + stw (nI j))) ex) (C := RX0) (T := TX0) (N := 3) (ci := 0) S hE hW hi0 tyX0 tyX0_ok nmX0 rfl (Nat.lt_of_lt_of_le (kC_b (by omega)) hn) (cC_b (i := i) (by omega)) 2 (by decide) rfl 14 rfl rfl rfl (Nat.le_of_ble_eq_true rfl) (pC_b (i := i) (by omega) (by decide)) (fun j h => cC_o h) dX3_stow_133 (fun H locs hW => ?_)
            refine lv_aload hx hb dX3_stow_136 (lv_at hl 1 rfl) ?_
            refine z_cVi (As := []) (rest := []) (k := (24 + i)) S hE hW (cX0_trim_ok l D n ad cy sa H.size hn (zup (zup al (8 + 0) j (al (8 + 0) j - 1)) (24 + i) 2 (al (24 + i) 2 + stw (nI j))) ex i (by omega)) (cwV 0 hts gX3_stow_X0_trim rfl rfl rfl (by decide +kernel) ⟨Nat.le_of_ble_eq_true rfl, Nat.le_of_ble_eq_true rfl⟩) (Nat.lt_of_lt_of_le (kC_b (by omega)) hn) (cC_b (i := i) (by omega)) rfl rfl rfl hl.1 rfl (Nat.le_of_ble_eq_true rfl) dX3_stow_138 ⟨Nat.le_of_ble_eq_true rfl, Nat.le_of_ble_eq_true rfl⟩ (fun r _ H locs hp hW => ?_)
            subst hp
            exact zx_i S hW hr hlk () (congrArg (fun z => cC cy ad z ex) (by unfold u_stow; rw [ix_nI (show i < 2 ^ 31 by omega), ix_nI (show j < 2 ^ 31 by omega), if_pos c106])) ⟨(by unfold k_stow; simp only [ix_nI (show i < 2 ^ 31 by omega), ix_nI (show j < 2 ^ 31 by omega)]; rw [if_neg (fun h => h c5), if_neg (fun h => h c22), if_neg (fun h => h c59), if_neg (fun h => h c79)]), (by unfold v_stow u_stow; rw [ix_nI (show i < 2 ^ 31 by omega), ix_nI (show j < 2 ^ 31 by omega), if_pos c106])⟩ (Nat.le_of_ble_eq_true rfl) (Nat.le_of_ble_eq_true rfl) dX3_stow_141
          · refine lv_aload hx hb dX3_stow_109 (lv_at hl 1 rfl) ?_
            refine lv_dup hx hb dX3_stow_111 rfl ?_
            refine z_getN (C := RX0) (T := TX0) (N := 3) (ci := 0) S hE hW hi0 rfl (Nat.lt_of_lt_of_le (kC_b (by omega)) hn) (cC_b (i := i) (by omega)) 1 (by decide) rfl 13 rfl (v := .int (al (24 + i) 1)) (congrArg (fun z => some (Value.int z)) (congrFun (zup_o (by omega)) 1)) dX3_stow_112 ?_
            refine lv_iload hx hb dX3_stow_115 (lv_at hl 0 rfl) ?_
            refine lv_iadd hx hb dX3_stow_117 ?_
            refine z_putN (ce' := cC cy ad (zup (zup al (8 + 0) j (al (8 + 0) j - 1)) (24 + i) 1 (al (24 + i) 1 + stw (nI j))) ex) (C := RX0) (T := TX0) (N := 3) (ci := 0) S hE hW hi0 tyX0 tyX0_ok nmX0 rfl (Nat.lt_of_lt_of_le (kC_b (by omega)) hn) (cC_b (i := i) (by omega)) 1 (by decide) rfl 13 rfl rfl rfl (Nat.le_of_ble_eq_true rfl) (pC_b (i := i) (by omega) (by decide)) (fun j h => cC_o h) dX3_stow_118 (fun H locs hW => ?_)
            refine lv_goto (tgt := 136) hx hb dX3_stow_121 (by decide) ?_
            refine lv_aload hx hb dX3_stow_136 (lv_at hl 1 rfl) ?_
            refine z_cVi (As := []) (rest := []) (k := (24 + i)) S hE hW (cX0_trim_ok l D n ad cy sa H.size hn (zup (zup al (8 + 0) j (al (8 + 0) j - 1)) (24 + i) 1 (al (24 + i) 1 + stw (nI j))) ex i (by omega)) (cwV 0 hts gX3_stow_X0_trim rfl rfl rfl (by decide +kernel) ⟨Nat.le_of_ble_eq_true rfl, Nat.le_of_ble_eq_true rfl⟩) (Nat.lt_of_lt_of_le (kC_b (by omega)) hn) (cC_b (i := i) (by omega)) rfl rfl rfl hl.1 rfl (Nat.le_of_ble_eq_true rfl) dX3_stow_138 ⟨Nat.le_of_ble_eq_true rfl, Nat.le_of_ble_eq_true rfl⟩ (fun r _ H locs hp hW => ?_)
            subst hp
            exact zx_i S hW hr hlk () (congrArg (fun z => cC cy ad z ex) (by unfold u_stow; rw [ix_nI (show i < 2 ^ 31 by omega), ix_nI (show j < 2 ^ 31 by omega), if_neg c106])) ⟨(by unfold k_stow; simp only [ix_nI (show i < 2 ^ 31 by omega), ix_nI (show j < 2 ^ 31 by omega)]; rw [if_neg (fun h => h c5), if_neg (fun h => h c22), if_neg (fun h => h c59), if_neg (fun h => h c79)]), (by unfold v_stow u_stow; rw [ix_nI (show i < 2 ^ 31 by omega), ix_nI (show j < 2 ^ 31 by omega), if_neg c106])⟩ (Nat.le_of_ble_eq_true rfl) (Nat.le_of_ble_eq_true rfl) dX3_stow_141
        · exact z_throw (E := "java/lang/IllegalStateException") 16 S hnx hE hW hfl (by decide) x79 xi79 (fun _ h => List.mem_cons_of_mem _ (List.mem_append_right _ h)) z_castS z_otS rfl hl.1 dX3_stow_82 dX3_stow_85 dX3_stow_86 dX3_stow_88 dX3_stow_91 ⟨Nat.le_of_ble_eq_true rfl, Nat.le_of_ble_eq_true rfl, Nat.le_of_ble_eq_true rfl, Nat.le_of_ble_eq_true rfl⟩ hlk (Nat.le_of_ble_eq_true rfl) (Nat.le_of_ble_eq_true rfl) (Or.inr ⟨rfl, (by unfold k_stow; simp only [ix_nI (show i < 2 ^ 31 by omega), ix_nI (show j < 2 ^ 31 by omega)]; rw [if_neg (fun h => h c5), if_neg (fun h => h c22), if_neg (fun h => h c59), if_pos c79])⟩)
      · exact z_throw (E := "java/lang/IllegalStateException") 15 S hnx hE hW hfl (by decide) x79 xi79 (fun _ h => List.mem_cons_of_mem _ (List.mem_append_right _ h)) z_castS z_otS rfl hl.1 dX3_stow_62 dX3_stow_65 dX3_stow_66 dX3_stow_68 dX3_stow_71 ⟨Nat.le_of_ble_eq_true rfl, Nat.le_of_ble_eq_true rfl, Nat.le_of_ble_eq_true rfl, Nat.le_of_ble_eq_true rfl⟩ hlk (Nat.le_of_ble_eq_true rfl) (Nat.le_of_ble_eq_true rfl) (Or.inr ⟨rfl, (by unfold k_stow; simp only [ix_nI (show i < 2 ^ 31 by omega), ix_nI (show j < 2 ^ 31 by omega)]; rw [if_neg (fun h => h c5), if_neg (fun h => h c22), if_pos c59])⟩)
    · have c22 := zb_f c22
      exact z_throw (E := "java/lang/IndexOutOfBoundsException") 14 S hnx hE hW hfl (by decide) x51 xi51 (fun _ h => List.mem_cons_of_mem _ (List.mem_append_left _ (List.mem_append_right _ h))) z_castI z_otI rfl hl.1 dX3_stow_25 dX3_stow_28 dX3_stow_29 dX3_stow_31 dX3_stow_34 ⟨Nat.le_of_ble_eq_true rfl, Nat.le_of_ble_eq_true rfl, Nat.le_of_ble_eq_true rfl, Nat.le_of_ble_eq_true rfl⟩ hlk (Nat.le_of_ble_eq_true rfl) (Nat.le_of_ble_eq_true rfl) (Or.inl ⟨rfl, (by unfold k_stow; rw [if_neg (fun h => h c5), if_pos c22])⟩)
  · have c5 := zb_f c5
    exact z_throw (E := "java/lang/IndexOutOfBoundsException") 13 S hnx hE hW hfl (by decide) x51 xi51 (fun _ h => List.mem_cons_of_mem _ (List.mem_append_left _ (List.mem_append_right _ h))) z_castI z_otI rfl hl.1 dX3_stow_8 dX3_stow_11 dX3_stow_12 dX3_stow_14 dX3_stow_17 ⟨Nat.le_of_ble_eq_true rfl, Nat.le_of_ble_eq_true rfl, Nat.le_of_ble_eq_true rfl, Nat.le_of_ble_eq_true rfl⟩ hlk (Nat.le_of_ble_eq_true rfl) (Nat.le_of_ble_eq_true rfl) (Or.inl ⟨rfl, (by unfold k_stow; rw [if_pos c5])⟩)
set_option maxHeartbeats 4000000 in
set_option maxRecDepth 100000 in
theorem cX3_sail_ok (l : Launch) (D : va_G) (n : Nat) (ad cy sa : Nat → Nat) (sz : Nat) (hn : 28 ≤ n) (al : Nat → Nat → Int32) (ex : Nat → va_E) (x : Int32) (B : Nat) (hB : al 0 6 = nI B) (hB4 : B ≤ 4) (hfl : l.stackTraces = false) : vx_Met l yX3_sail wsX3_sail ({ frames := 6, cells := 1, slots := 6, locals := 121 }) (PW D n ad cy sa sz (cC cy ad al ex) [.ref (ad 0), .int x]) (QXi D n ad sz (k_sail al x) (v_sail al x) (cC cy ad (u_sail al x) ex)) (XW D n ad sz (zbad "java/lang/IndexOutOfBoundsException" "java/lang/IllegalStateException" (k_sail al x)) (cC cy ad al ex)) 1 6 (Acc n ad sz) := by
  refine zs_vx (cc := cX3_sail) (maxL := 4) (ret := (some .int)) (own := RX3) (by decide) rfl rfl (Nat.le_of_ble_eq_true rfl) ?_
  intro p e s m args below meth c ls S hnx hE hW hr hlk hsz hav hl
  subst hsz
  have hx := S.1
  have hb := S.2.1
  have hown := S.2.2.2.1
  have hts := S.2.2.2.2
  have hl : lv_has ls 4 [(0, .ref (ad 0)), (1, .int x)] := hl
  have f27 := hts (.fieldLink RX3 27 "PumiceSledge" "boats" "[LPumiceSledge$Boat;") (by decide +kernel)
  have hi3 : ∀ w ∈ wsX30, w ∈ wsX3_sail := by decide +kernel
  have hi0 : ∀ w ∈ wsX00, w ∈ wsX3_sail := by decide +kernel
  have f170 := hts (.fieldLink RX3 170 "PumiceSledge" "coins" "I") (by decide +kernel)
  have x79 := hts (.classLink RX3 79 "java/lang/IllegalStateException") (by decide +kernel)
  have xi79 := hts (.initialized "java/lang/IllegalStateException") (by decide +kernel)
  have x51 := hts (.classLink RX3 51 "java/lang/IndexOutOfBoundsException") (by decide +kernel)
  have xi51 := hts (.initialized "java/lang/IndexOutOfBoundsException") (by decide +kernel)
  refine lv_aload_n hx hb dX3_sail_0 rfl (lv_at hl 0 rfl) ?_
  refine lv_iload_n hx hb dX3_sail_1 rfl (lv_at hl 1 rfl) ?_
  refine z_cVi (As := [.int x]) (rest := []) (k := 0) S hE hW (cX3_isBoat_ok l D n ad cy sa s.heap.size hn al ex x) (cwV 1 hts gX3_sail_X3_isBoat rfl rfl rfl (by decide +kernel) ⟨Nat.le_of_ble_eq_true rfl, Nat.le_of_ble_eq_true rfl⟩) (Nat.lt_of_lt_of_le (by decide) hn) cC_0 rfl rfl rfl hl.1 rfl (Nat.le_of_ble_eq_true rfl) dX3_sail_2 ⟨Nat.le_of_ble_eq_true rfl, Nat.le_of_ble_eq_true rfl⟩ (fun r _ H locs hp hW => ?_)
  subst hp
  refine lv_if_ne (tgt := 18) hx hb dX3_sail_5 (by decide) (fun c5 => ?_) (fun c5 => ?_)
  · have c5 := zb_t c5
    obtain ⟨i, hi, rfl⟩ := zS_ex hB (by omega) c5
    refine lv_aload_n hx hb dX3_sail_18 rfl (lv_at hl 0 rfl) ?_
    refine z_get (C := RX3) (T := TX3) (N := 12) (ci := 3) S hE hW hi3 rfl (Nat.lt_of_lt_of_le (by decide) hn) cC_0 5 (by decide) rfl f27 (v := .ref (ad 5)) rfl dX3_sail_19 ?_
    refine lv_iload_n hx hb dX3_sail_22 rfl (lv_at hl 1 rfl) ?_
    refine z_aldq (t0 := 2) (C := RX0) S hE hW (Nat.lt_of_lt_of_le (by decide) hn) cC_5 rfl i rfl (by omega) (by decide) (v := .ref (ad (24 + i))) rfl dX3_sail_23 ?_
    refine lv_astore_n (lv' := [(2, .ref (ad (24 + i))), (0, .ref (ad 0)), (1, .int (nI i))]) hx hb dX3_sail_24 rfl hl (by decide) rfl (fun ls hl => ?_)
    refine lv_aload_n hx hb dX3_sail_25 rfl (lv_at hl 0 rfl) ?_
    refine z_cVi (As := []) (rest := []) (k := (24 + i)) S hE hW (cX0_canSail_ok l D n ad cy sa H.size hn al ex i (by omega)) (cwV 0 hts gX3_sail_X0_canSail rfl rfl rfl (by decide +kernel) ⟨Nat.le_of_ble_eq_true rfl, Nat.le_of_ble_eq_true rfl⟩) (Nat.lt_of_lt_of_le (kC_b (by omega)) hn) (cC_b (i := i) (by omega)) rfl rfl rfl hl.1 rfl (Nat.le_of_ble_eq_true rfl) dX3_sail_26 ⟨Nat.le_of_ble_eq_true rfl, Nat.le_of_ble_eq_true rfl⟩ (fun r _ H locs hp hW => ?_)
    subst hp
    refine lv_if_ne (tgt := 42) hx hb dX3_sail_29 (by decide) (fun c29 => ?_) (fun c29 => ?_)
    · have c29 := zb_t c29
      refine lv_aload_n hx hb dX3_sail_42 rfl (lv_at hl 0 rfl) ?_
      refine z_cVi (As := []) (rest := []) (k := (24 + i)) S hE hW (cX0_worth_ok l D n ad cy sa H.size hn al ex i (by omega)) (cwV 0 hts gX3_sail_X0_worth rfl rfl rfl (by decide +kernel) ⟨Nat.le_of_ble_eq_true rfl, Nat.le_of_ble_eq_true rfl⟩) (Nat.lt_of_lt_of_le (kC_b (by omega)) hn) (cC_b (i := i) (by omega)) rfl rfl rfl hl.1 rfl (Nat.le_of_ble_eq_true rfl) dX3_sail_43 ⟨Nat.le_of_ble_eq_true rfl, Nat.le_of_ble_eq_true rfl⟩ (fun r _ H locs hp hW => ?_)
      subst hp
      refine lv_istore_n (lv' := [(3, .int (((al (24 + i) 1 + al (24 + i) 2) / 10) * 3)), (2, .ref (ad (24 + i))), (0, .ref (ad 0)), (1, .int (nI i))]) hx hb dX3_sail_46 rfl hl (by decide) rfl (fun ls hl => ?_)
      refine lv_aload_n hx hb dX3_sail_47 rfl (lv_at hl 1 rfl) ?_
      refine lv_iconst (v := 0) hx hb dX3_sail_48 (by decide) ?_
      refine z_putN (ce' := cC cy ad (zup al (24 + i) 1 0) ex) (C := RX0) (T := TX0) (N := 3) (ci := 0) S hE hW hi0 tyX0 tyX0_ok nmX0 rfl (Nat.lt_of_lt_of_le (kC_b (by omega)) hn) (cC_b (i := i) (by omega)) 1 (by decide) rfl 13 rfl rfl rfl (Nat.le_of_ble_eq_true rfl) (pC_b (i := i) (by omega) (by decide)) (fun j h => cC_o h) dX3_sail_49 (fun H locs hW => ?_)
      refine lv_aload_n hx hb dX3_sail_52 rfl (lv_at hl 1 rfl) ?_
      refine lv_iconst (v := 0) hx hb dX3_sail_53 (by decide) ?_
      refine z_putN (ce' := cC cy ad (zup (zup al (24 + i) 1 0) (24 + i) 2 0) ex) (C := RX0) (T := TX0) (N := 3) (ci := 0) S hE hW hi0 tyX0 tyX0_ok nmX0 rfl (Nat.lt_of_lt_of_le (kC_b (by omega)) hn) (cC_b (i := i) (by omega)) 2 (by decide) rfl 14 rfl rfl rfl (Nat.le_of_ble_eq_true rfl) (pC_b (i := i) (by omega) (by decide)) (fun j h => cC_o h) dX3_sail_54 (fun H locs hW => ?_)
      refine lv_aload_n hx hb dX3_sail_57 rfl (lv_at hl 2 rfl) ?_
      refine lv_dup hx hb dX3_sail_58 rfl ?_
      refine z_get (C := RX3) (T := TX3) (N := 12) (ci := 3) S hE hW hi3 rfl (Nat.lt_of_lt_of_le (by decide) hn) cC_0 9 (by decide) rfl f170 (v := .int (al 0 9)) (congrArg (fun z => some (Value.int z)) ((congrFun (zup_o (by omega)) 9).trans (congrFun (zup_o (by omega)) 9))) dX3_sail_59 ?_
      refine lv_iload_n hx hb dX3_sail_62 rfl (lv_at hl 0 rfl) ?_
      refine lv_iadd hx hb dX3_sail_63 ?_
      refine z_put (ce' := cC cy ad (zup (zup (zup al (24 + i) 1 0) (24 + i) 2 0) 0 9 (al 0 9 + (((al (24 + i) 1 + al (24 + i) 2) / 10) * 3))) ex) (C := RX3) (T := TX3) (N := 12) (ci := 3) S hE hW hi3 tyX3 tyX3_ok nmX3 rfl (Nat.lt_of_lt_of_le (by decide) hn) cC_0 9 (by decide) rfl f170 rfl rfl (Nat.le_of_ble_eq_true rfl) (pC_0 (by decide)) (fun j h => cC_o h) dX3_sail_64 (fun H locs hW => ?_)
      refine lv_iload_n hx hb dX3_sail_67 rfl (lv_at hl 0 rfl) ?_
      exact zx_i S hW hr hlk () (congrArg (fun z => cC cy ad z ex) (by unfold u_sail; rw [ix_nI (show i < 2 ^ 31 by omega)])) ⟨(by unfold k_sail; simp only [ix_nI (show i < 2 ^ 31 by omega)]; rw [if_neg (fun h => h c5), if_neg (fun h => h c29)]), (by unfold v_sail; rw [ix_nI (show i < 2 ^ 31 by omega)])⟩ (Nat.le_of_ble_eq_true rfl) (Nat.le_of_ble_eq_true rfl) dX3_sail_68
    · have c29 := zb_f c29
      exact z_throw (E := "java/lang/IllegalStateException") 17 S hnx hE hW hfl (by decide) x79 xi79 (fun _ h => List.mem_cons_of_mem _ (List.mem_append_right _ h)) z_castS z_otS rfl hl.1 dX3_sail_32 dX3_sail_35 dX3_sail_36 dX3_sail_38 dX3_sail_41 ⟨Nat.le_of_ble_eq_true rfl, Nat.le_of_ble_eq_true rfl, Nat.le_of_ble_eq_true rfl, Nat.le_of_ble_eq_true rfl⟩ hlk (Nat.le_of_ble_eq_true rfl) (Nat.le_of_ble_eq_true rfl) (Or.inr ⟨rfl, (by unfold k_sail; simp only [ix_nI (show i < 2 ^ 31 by omega)]; rw [if_neg (fun h => h c5), if_pos c29])⟩)
  · have c5 := zb_f c5
    exact z_throw (E := "java/lang/IndexOutOfBoundsException") 13 S hnx hE hW hfl (by decide) x51 xi51 (fun _ h => List.mem_cons_of_mem _ (List.mem_append_left _ (List.mem_append_right _ h))) z_castI z_otI rfl hl.1 dX3_sail_8 dX3_sail_11 dX3_sail_12 dX3_sail_14 dX3_sail_17 ⟨Nat.le_of_ble_eq_true rfl, Nat.le_of_ble_eq_true rfl, Nat.le_of_ble_eq_true rfl, Nat.le_of_ble_eq_true rfl⟩ hlk (Nat.le_of_ble_eq_true rfl) (Nat.le_of_ble_eq_true rfl) (Or.inl ⟨rfl, (by unfold k_sail; rw [if_pos c5])⟩)
set_option maxHeartbeats 4000000 in
set_option maxRecDepth 100000 in
theorem cX3_layer_ok (l : Launch) (D : va_G) (n : Nat) (ad cy sa : Nat → Nat) (sz : Nat) (hn : 28 ≤ n) (al : Nat → Nat → Int32) (ex : Nat → va_E) (x : Int32) (y : Int32)  (hfl : l.stackTraces = false) : vx_Met l yX3_layer wsX3_layer ({ frames := 6, cells := 1, slots := 6, locals := 110 }) (PW D n ad cy sa sz (cC cy ad al ex) [.ref (ad 0), .int x, .int y]) (QXi D n ad sz (k_layer al x y) (v_layer al x y) (cC cy ad al ex)) (XW D n ad sz (zbad "java/lang/IndexOutOfBoundsException" "java/lang/IllegalArgumentException" (k_layer al x y)) (cC cy ad al ex)) 1 6 (Acc n ad sz) := by
  refine zs_vx (cc := cX3_layer) (maxL := 3) (ret := (some .int)) (own := RX3) (by decide) rfl rfl (Nat.le_of_ble_eq_true rfl) ?_
  intro p e s m args below meth c ls S hnx hE hW hr hlk hsz hav hl
  subst hsz
  have hx := S.1
  have hb := S.2.1
  have hown := S.2.2.2.1
  have hts := S.2.2.2.2
  have hl : lv_has ls 3 [(0, .ref (ad 0)), (1, .int x), (2, .int y)] := hl
  have f9 := hts (.fieldLink RX3 9 "PumiceSledge" "stones" "[I") (by decide +kernel)
  have hi3 : ∀ w ∈ wsX30, w ∈ wsX3_layer := by decide +kernel
  have f13 := hts (.fieldLink RX3 13 "PumiceSledge" "stoneWeights" "[I") (by decide +kernel)
  have x51 := hts (.classLink RX3 51 "java/lang/IndexOutOfBoundsException") (by decide +kernel)
  have xi51 := hts (.initialized "java/lang/IndexOutOfBoundsException") (by decide +kernel)
  refine lv_iload_n hx hb dX3_layer_0 rfl (lv_at hl 1 rfl) ?_
  refine z_pS (As := [.int x]) (rest := []) S hE hW (cX3_isLayer_ok l x) (va_cwS 1 hts gX3_layer_X3_isLayer rfl rfl rfl (by decide +kernel) ⟨Nat.le_of_ble_eq_true rfl, Nat.le_of_ble_eq_true rfl⟩) rfl hl.1 rfl (Nat.le_of_ble_eq_true rfl) dX3_layer_1 ⟨Nat.le_of_ble_eq_true rfl, Nat.le_of_ble_eq_true rfl⟩ (fun H locs hW => ?_)
  refine lv_if_ne (tgt := 17) hx hb dX3_layer_4 (by decide) (fun c4 => ?_) (fun c4 => ?_)
  · have c4 := zb_t c4
    refine lv_iload_n hx hb dX3_layer_17 rfl (lv_at hl 2 rfl) ?_
    refine lv_iconst (v := 0) hx hb dX3_layer_18 (by decide) ?_
    refine lv_iconst (v := 3) hx hb dX3_layer_19 (by decide) ?_
    refine z_pS (As := [.int y, .int 0, .int 3]) (rest := []) S hE hW (cX3_isWithin_ok l y 0 3) (va_cwS 3 hts gX3_layer_X3_isWithin rfl rfl rfl (by decide +kernel) ⟨Nat.le_of_ble_eq_true rfl, Nat.le_of_ble_eq_true rfl⟩) rfl hl.1 rfl (Nat.le_of_ble_eq_true rfl) dX3_layer_20 ⟨Nat.le_of_ble_eq_true rfl, Nat.le_of_ble_eq_true rfl⟩ (fun H locs hW => ?_)
    refine lv_if_ne (tgt := 36) hx hb dX3_layer_23 (by decide) (fun c23 => ?_) (fun c23 => ?_)
    · have c23 := zb_t c23
      obtain ⟨j, hj, rfl⟩ := zIn_ex 4 rfl (by decide) c4
      obtain ⟨q, hq, rfl⟩ := zIn_ex 3 rfl (by decide) c23
      refine lv_iload_n hx hb dX3_layer_36 rfl (lv_at hl 2 rfl) ?_
      rcases (show q = 0 ∨ q = 1 ∨ q = 2 ∨ q = 3 by omega) with rfl | rfl | rfl | rfl
      · refine lv_tableIn (off := 27) (tgt := 64) hx hb dX3_layer_37 (by decide) (by decide) rfl (by decide) ?_
        refine lv_aload_n hx hb dX3_layer_64 rfl (lv_at hl 0 rfl) ?_
        refine z_get (C := RX3) (T := TX3) (N := 12) (ci := 3) S hE hW hi3 rfl (Nat.lt_of_lt_of_le (by decide) hn) cC_0 0 (by decide) rfl f9 (v := .ref (ad 1)) rfl dX3_layer_65 ?_
        refine lv_iload_n hx hb dX3_layer_68 rfl (lv_at hl 1 rfl) ?_
        refine z_ald S hE hW (Nat.lt_of_lt_of_le (by decide) hn) cC_1 j rfl (by omega) (by decide) (v := al 1 j) rfl dX3_layer_69 ?_
        exact zx_i S hW hr hlk () rfl ⟨(by unfold k_layer; rw [if_neg (fun h => h c4), if_neg (fun h => h c23)]), (by unfold v_layer; rw [if_pos (by decide), ix_nI (show j < 2 ^ 31 by omega)])⟩ (Nat.le_of_ble_eq_true rfl) (Nat.le_of_ble_eq_true rfl) dX3_layer_70
      · refine lv_tableIn (off := 34) (tgt := 71) hx hb dX3_layer_37 (by decide) (by decide) rfl (by decide) ?_
        refine lv_aload_n hx hb dX3_layer_71 rfl (lv_at hl 0 rfl) ?_
        refine z_get (C := RX3) (T := TX3) (N := 12) (ci := 3) S hE hW hi3 rfl (Nat.lt_of_lt_of_le (by decide) hn) cC_0 1 (by decide) rfl f13 (v := .ref (ad 2)) rfl dX3_layer_72 ?_
        refine lv_iload_n hx hb dX3_layer_75 rfl (lv_at hl 1 rfl) ?_
        refine z_ald S hE hW (Nat.lt_of_lt_of_le (by decide) hn) cC_2 j rfl (by omega) (by decide) (v := al 2 j) rfl dX3_layer_76 ?_
        exact zx_i S hW hr hlk () rfl ⟨(by unfold k_layer; rw [if_neg (fun h => h c4), if_neg (fun h => h c23)]), (by unfold v_layer; rw [if_neg (by decide), if_pos (by decide), ix_nI (show j < 2 ^ 31 by omega)])⟩ (Nat.le_of_ble_eq_true rfl) (Nat.le_of_ble_eq_true rfl) dX3_layer_77
      · refine lv_tableIn (off := 41) (tgt := 78) hx hb dX3_layer_37 (by decide) (by decide) rfl (by decide) ?_
        refine lv_aload_n hx hb dX3_layer_78 rfl (lv_at hl 0 rfl) ?_
        refine lv_iload_n hx hb dX3_layer_79 rfl (lv_at hl 1 rfl) ?_
        refine z_cVi (As := [.int (nI j)]) (rest := []) (k := 0) S hE hW (cX3_sackWeight_ok l D n ad cy sa H.size hn al ex j (by omega)) (cwV 1 hts gX3_layer_X3_sackWeight rfl rfl rfl (by decide +kernel) ⟨Nat.le_of_ble_eq_true rfl, Nat.le_of_ble_eq_true rfl⟩) (Nat.lt_of_lt_of_le (by decide) hn) cC_0 rfl rfl rfl hl.1 rfl (Nat.le_of_ble_eq_true rfl) dX3_layer_80 ⟨Nat.le_of_ble_eq_true rfl, Nat.le_of_ble_eq_true rfl⟩ (fun r _ H locs hp hW => ?_)
        subst hp
        refine z_pS (As := [.int (10 * al 2 j)]) (rest := []) S hE hW (cX3_kindOf_ok l (10 * al 2 j)) (va_cwS 1 hts gX3_layer_X3_kindOf rfl rfl rfl (by decide +kernel) ⟨Nat.le_of_ble_eq_true rfl, Nat.le_of_ble_eq_true rfl⟩) rfl hl.1 rfl (Nat.le_of_ble_eq_true rfl) dX3_layer_83 ⟨Nat.le_of_ble_eq_true rfl, Nat.le_of_ble_eq_true rfl⟩ (fun H locs hW => ?_)
        exact zx_i S hW hr hlk () rfl ⟨(by unfold k_layer; rw [if_neg (fun h => h c4), if_neg (fun h => h c23)]), (by unfold v_layer; rw [if_neg (by decide), if_neg (by decide), if_pos (by decide), ix_nI (show j < 2 ^ 31 by omega)])⟩ (Nat.le_of_ble_eq_true rfl) (Nat.le_of_ble_eq_true rfl) dX3_layer_86
      · refine lv_tableOut (tgt := 87) hx hb dX3_layer_37 (by decide) (by decide) ?_
        refine lv_aload_n hx hb dX3_layer_87 rfl (lv_at hl 0 rfl) ?_
        refine z_get (C := RX3) (T := TX3) (N := 12) (ci := 3) S hE hW hi3 rfl (Nat.lt_of_lt_of_le (by decide) hn) cC_0 0 (by decide) rfl f9 (v := .ref (ad 1)) rfl dX3_layer_88 ?_
        refine lv_iload_n hx hb dX3_layer_91 rfl (lv_at hl 1 rfl) ?_
        refine z_ald S hE hW (Nat.lt_of_lt_of_le (by decide) hn) cC_1 j rfl (by omega) (by decide) (v := al 1 j) rfl dX3_layer_92 ?_
        refine lv_bipush (v := 10) hx hb dX3_layer_93 (by decide) ?_
        refine lv_idiv hx hb dX3_layer_95 (by decide) ?_
        exact zx_i S hW hr hlk () rfl ⟨(by unfold k_layer; rw [if_neg (fun h => h c4), if_neg (fun h => h c23)]), (by unfold v_layer; rw [if_neg (by decide), if_neg (by decide), if_neg (by decide), ix_nI (show j < 2 ^ 31 by omega)])⟩ (Nat.le_of_ble_eq_true rfl) (Nat.le_of_ble_eq_true rfl) dX3_layer_96
    · have c23 := zb_f c23
      exact z_throw (E := "java/lang/IndexOutOfBoundsException") 18 S hnx hE hW hfl (by decide) x51 xi51 (fun _ h => List.mem_cons_of_mem _ (List.mem_append_right _ h)) z_castI z_otI rfl hl.1 dX3_layer_26 dX3_layer_29 dX3_layer_30 dX3_layer_32 dX3_layer_35 ⟨Nat.le_of_ble_eq_true rfl, Nat.le_of_ble_eq_true rfl, Nat.le_of_ble_eq_true rfl, Nat.le_of_ble_eq_true rfl⟩ hlk (Nat.le_of_ble_eq_true rfl) (Nat.le_of_ble_eq_true rfl) (Or.inl ⟨rfl, (by unfold k_layer; rw [if_neg (fun h => h c4), if_pos c23])⟩)
  · have c4 := zb_f c4
    exact z_throw (E := "java/lang/IndexOutOfBoundsException") 0 S hnx hE hW hfl (by decide) x51 xi51 (fun _ h => List.mem_cons_of_mem _ (List.mem_append_right _ h)) z_castI z_otI rfl hl.1 dX3_layer_7 dX3_layer_10 dX3_layer_11 dX3_layer_13 dX3_layer_16 ⟨Nat.le_of_ble_eq_true rfl, Nat.le_of_ble_eq_true rfl, Nat.le_of_ble_eq_true rfl, Nat.le_of_ble_eq_true rfl⟩ hlk (Nat.le_of_ble_eq_true rfl) (Nat.le_of_ble_eq_true rfl) (Or.inl ⟨rfl, (by unfold k_layer; rw [if_pos c4])⟩)
set_option maxHeartbeats 4000000 in
set_option maxRecDepth 100000 in
theorem cX3_told_ok (l : Launch) (D : va_G) (n : Nat) (ad cy sa : Nat → Nat) (sz : Nat) (hn : 28 ≤ n) (al : Nat → Nat → Int32) (ex : Nat → va_E) (x : Int32) (y : Int32) (N : Nat) (hN : al 0 4 = nI N) (hN6 : N ≤ 6) (hab : abOK al) (hfl : l.stackTraces = false) : vx_Met l yX3_told wsX3_told ({ frames := 6, cells := 1, slots := 6, locals := 110 }) (PW D n ad cy sa sz (cC cy ad al ex) [.ref (ad 0), .int x, .int y]) (QXi D n ad sz (k_told al x y) (v_told al x y) (cC cy ad al ex)) (XW D n ad sz (zbad "java/lang/IndexOutOfBoundsException" "java/lang/IllegalArgumentException" (k_told al x y)) (cC cy ad al ex)) 1 6 (Acc n ad sz) := by
  refine zs_vx (cc := cX3_told) (maxL := 4) (ret := (some .int)) (own := RX3) (by decide) rfl rfl (Nat.le_of_ble_eq_true rfl) ?_
  intro p e s m args below meth c ls S hnx hE hW hr hlk hsz hav hl
  subst hsz
  have hx := S.1
  have hb := S.2.1
  have hown := S.2.2.2.1
  have hts := S.2.2.2.2
  have hl : lv_has ls 4 [(0, .ref (ad 0)), (1, .int x), (2, .int y)] := hl
  have f21 := hts (.fieldLink RX3 21 "PumiceSledge" "sledges" "[LPumiceSledge$Sledge;") (by decide +kernel)
  have hi3 : ∀ w ∈ wsX30, w ∈ wsX3_told := by decide +kernel
  have hi2 : ∀ w ∈ wsX20, w ∈ wsX3_told := by decide +kernel
  have x51 := hts (.classLink RX3 51 "java/lang/IndexOutOfBoundsException") (by decide +kernel)
  have xi51 := hts (.initialized "java/lang/IndexOutOfBoundsException") (by decide +kernel)
  refine lv_aload_n hx hb dX3_told_0 rfl (lv_at hl 0 rfl) ?_
  refine lv_iload_n hx hb dX3_told_1 rfl (lv_at hl 1 rfl) ?_
  refine z_cVi (As := [.int x]) (rest := []) (k := 0) S hE hW (cX3_isSledge_ok l D n ad cy sa s.heap.size hn al ex x) (cwV 1 hts gX3_told_X3_isSledge rfl rfl rfl (by decide +kernel) ⟨Nat.le_of_ble_eq_true rfl, Nat.le_of_ble_eq_true rfl⟩) (Nat.lt_of_lt_of_le (by decide) hn) cC_0 rfl rfl rfl hl.1 rfl (Nat.le_of_ble_eq_true rfl) dX3_told_2 ⟨Nat.le_of_ble_eq_true rfl, Nat.le_of_ble_eq_true rfl⟩ (fun r _ H locs hp hW => ?_)
  subst hp
  refine lv_if_ne (tgt := 18) hx hb dX3_told_5 (by decide) (fun c5 => ?_) (fun c5 => ?_)
  · have c5 := zb_t c5
    refine lv_iload_n hx hb dX3_told_18 rfl (lv_at hl 2 rfl) ?_
    refine lv_iconst (v := 0) hx hb dX3_told_19 (by decide) ?_
    refine lv_iconst (v := 5) hx hb dX3_told_20 (by decide) ?_
    refine z_pS (As := [.int y, .int 0, .int 5]) (rest := []) S hE hW (cX3_isWithin_ok l y 0 5) (va_cwS 3 hts gX3_told_X3_isWithin rfl rfl rfl (by decide +kernel) ⟨Nat.le_of_ble_eq_true rfl, Nat.le_of_ble_eq_true rfl⟩) rfl hl.1 rfl (Nat.le_of_ble_eq_true rfl) dX3_told_21 ⟨Nat.le_of_ble_eq_true rfl, Nat.le_of_ble_eq_true rfl⟩ (fun H locs hW => ?_)
    refine lv_if_ne (tgt := 37) hx hb dX3_told_24 (by decide) (fun c24 => ?_) (fun c24 => ?_)
    · have c24 := zb_t c24
      obtain ⟨i, hi, rfl⟩ := zS_ex hN (by omega) c5
      obtain ⟨q, hq, rfl⟩ := zIn_ex 5 rfl (by decide) c24
      obtain ⟨a, ha, ha8⟩ := hab i (by omega)
      refine lv_aload_n hx hb dX3_told_37 rfl (lv_at hl 0 rfl) ?_
      refine z_get (C := RX3) (T := TX3) (N := 12) (ci := 3) S hE hW hi3 rfl (Nat.lt_of_lt_of_le (by decide) hn) cC_0 3 (by decide) rfl f21 (v := .ref (ad 4)) rfl dX3_told_38 ?_
      refine lv_iload_n hx hb dX3_told_41 rfl (lv_at hl 1 rfl) ?_
      refine z_aldq (t0 := 1) (C := RX2) S hE hW (Nat.lt_of_lt_of_le (by decide) hn) cC_4 rfl i rfl (by omega) (by decide) (v := .ref (ad (10 + i))) rfl dX3_told_42 ?_
      refine lv_astore_n (lv' := [(3, .ref (ad (10 + i))), (0, .ref (ad 0)), (1, .int (nI i)), (2, .int (nI q))]) hx hb dX3_told_43 rfl hl (by decide) rfl (fun ls hl => ?_)
      refine lv_iload_n hx hb dX3_told_44 rfl (lv_at hl 3 rfl) ?_
      rcases (show q = 0 ∨ q = 1 ∨ q = 2 ∨ q = 3 ∨ q = 4 ∨ q = 5 by omega) with rfl | rfl | rfl | rfl | rfl | rfl
      · refine lv_tableIn (off := 35) (tgt := 80) hx hb dX3_told_45 (by decide) (by decide) rfl (by decide) ?_
        refine lv_aload_n hx hb dX3_told_80 rfl (lv_at hl 0 rfl) ?_
        refine z_getN (C := RX2) (T := TX2) (N := 5) (ci := 2) S hE hW hi2 rfl (Nat.lt_of_lt_of_le (kC_s (by omega)) hn) (cC_s (i := i) (by omega)) 0 (by decide) rfl 6 rfl (v := .int (al (10 + i) 0)) rfl dX3_told_81 ?_
        exact zx_i S hW hr hlk () rfl ⟨(by unfold k_told; rw [if_neg (fun h => h c5), if_neg (fun h => h c24)]), (by unfold v_told; rw [if_pos (by decide), ix_nI (show i < 2 ^ 31 by omega)])⟩ (Nat.le_of_ble_eq_true rfl) (Nat.le_of_ble_eq_true rfl) dX3_told_84
      · refine lv_tableIn (off := 40) (tgt := 85) hx hb dX3_told_45 (by decide) (by decide) rfl (by decide) ?_
        refine lv_aload_n hx hb dX3_told_85 rfl (lv_at hl 0 rfl) ?_
        refine z_getN (C := RX2) (T := TX2) (N := 5) (ci := 2) S hE hW hi2 rfl (Nat.lt_of_lt_of_le (kC_s (by omega)) hn) (cC_s (i := i) (by omega)) 2 (by decide) rfl 8 rfl (v := .int (al (10 + i) 2)) rfl dX3_told_86 ?_
        exact zx_i S hW hr hlk () rfl ⟨(by unfold k_told; rw [if_neg (fun h => h c5), if_neg (fun h => h c24)]), (by unfold v_told; rw [if_neg (by decide), if_pos (by decide), ix_nI (show i < 2 ^ 31 by omega)])⟩ (Nat.le_of_ble_eq_true rfl) (Nat.le_of_ble_eq_true rfl) dX3_told_89
      · refine lv_tableIn (off := 45) (tgt := 90) hx hb dX3_told_45 (by decide) (by decide) rfl (by decide) ?_
        refine lv_aload_n hx hb dX3_told_90 rfl (lv_at hl 0 rfl) ?_
        refine z_getN (C := RX2) (T := TX2) (N := 5) (ci := 2) S hE hW hi2 rfl (Nat.lt_of_lt_of_le (kC_s (by omega)) hn) (cC_s (i := i) (by omega)) 3 (by decide) rfl 9 rfl (v := .int (al (10 + i) 3)) rfl dX3_told_91 ?_
        exact zx_i S hW hr hlk () rfl ⟨(by unfold k_told; rw [if_neg (fun h => h c5), if_neg (fun h => h c24)]), (by unfold v_told; rw [if_neg (by decide), if_neg (by decide), if_pos (by decide), ix_nI (show i < 2 ^ 31 by omega)])⟩ (Nat.le_of_ble_eq_true rfl) (Nat.le_of_ble_eq_true rfl) dX3_told_94
      · refine lv_tableIn (off := 50) (tgt := 95) hx hb dX3_told_45 (by decide) (by decide) rfl (by decide) ?_
        refine lv_aload_n hx hb dX3_told_95 rfl (lv_at hl 0 rfl) ?_
        refine z_getN (C := RX2) (T := TX2) (N := 5) (ci := 2) S hE hW hi2 rfl (Nat.lt_of_lt_of_le (kC_s (by omega)) hn) (cC_s (i := i) (by omega)) 4 (by decide) rfl 10 rfl (v := .int (al (10 + i) 4)) rfl dX3_told_96 ?_
        exact zx_i S hW hr hlk () rfl ⟨(by unfold k_told; rw [if_neg (fun h => h c5), if_neg (fun h => h c24)]), (by unfold v_told; rw [if_neg (by decide), if_neg (by decide), if_neg (by decide), if_pos (by decide), ix_nI (show i < 2 ^ 31 by omega)])⟩ (Nat.le_of_ble_eq_true rfl) (Nat.le_of_ble_eq_true rfl) dX3_told_99
      · refine lv_tableIn (off := 55) (tgt := 100) hx hb dX3_told_45 (by decide) (by decide) rfl (by decide) ?_
        refine lv_aload_n hx hb dX3_told_100 rfl (lv_at hl 0 rfl) ?_
        refine z_cVi (As := []) (rest := []) (k := (10 + i)) S hE hW (cX2_weightAboard_ok l D n ad cy sa H.size hn al ex i (by omega) a ha ha8) (cwV 0 hts gX3_told_X2_weightAboard rfl rfl rfl (by decide +kernel) ⟨Nat.le_of_ble_eq_true rfl, Nat.le_of_ble_eq_true rfl⟩) (Nat.lt_of_lt_of_le (kC_s (by omega)) hn) (cC_s (i := i) (by omega)) rfl rfl rfl hl.1 rfl (Nat.le_of_ble_eq_true rfl) dX3_told_101 ⟨Nat.le_of_ble_eq_true rfl, Nat.le_of_ble_eq_true rfl⟩ (fun r _ H locs hp hW => ?_)
        subst hp
        exact zx_i S hW hr hlk () rfl ⟨(by unfold k_told; rw [if_neg (fun h => h c5), if_neg (fun h => h c24)]), (by unfold v_told; rw [if_neg (by decide), if_neg (by decide), if_neg (by decide), if_neg (by decide), if_pos (by decide), ix_nI (show i < 2 ^ 31 by omega), ha, ix_nI (show a < 2 ^ 31 by omega)])⟩ (Nat.le_of_ble_eq_true rfl) (Nat.le_of_ble_eq_true rfl) dX3_told_104
      · refine lv_tableOut (tgt := 105) hx hb dX3_told_45 (by decide) (by decide) ?_
        refine lv_aload_n hx hb dX3_told_105 rfl (lv_at hl 0 rfl) ?_
        refine z_cVi (As := []) (rest := []) (k := (10 + i)) S hE hW (cX2_lastKind_ok l D n ad cy sa H.size hn al ex i (by omega) a ha ha8) (cwV 0 hts gX3_told_X2_lastKind rfl rfl rfl (by decide +kernel) ⟨Nat.le_of_ble_eq_true rfl, Nat.le_of_ble_eq_true rfl⟩) (Nat.lt_of_lt_of_le (kC_s (by omega)) hn) (cC_s (i := i) (by omega)) rfl rfl rfl hl.1 rfl (Nat.le_of_ble_eq_true rfl) dX3_told_106 ⟨Nat.le_of_ble_eq_true rfl, Nat.le_of_ble_eq_true rfl⟩ (fun r _ H locs hp hW => ?_)
        subst hp
        exact zx_i S hW hr hlk () rfl ⟨(by unfold k_told; rw [if_neg (fun h => h c5), if_neg (fun h => h c24)]), (by unfold v_told; rw [ix_nI (show i < 2 ^ 31 by omega), ha, ix_nI (show a < 2 ^ 31 by omega)]; exact Eq.symm ((if_neg (by decide)).trans ((if_neg (by decide)).trans ((if_neg (by decide)).trans ((if_neg (by decide)).trans ((if_neg (by decide)).trans (rfl)))))))⟩ (Nat.le_of_ble_eq_true rfl) (Nat.le_of_ble_eq_true rfl) dX3_told_109
    · have c24 := zb_f c24
      exact z_throw (E := "java/lang/IndexOutOfBoundsException") 19 S hnx hE hW hfl (by decide) x51 xi51 (fun _ h => List.mem_cons_of_mem _ (List.mem_append_right _ h)) z_castI z_otI rfl hl.1 dX3_told_27 dX3_told_30 dX3_told_31 dX3_told_33 dX3_told_36 ⟨Nat.le_of_ble_eq_true rfl, Nat.le_of_ble_eq_true rfl, Nat.le_of_ble_eq_true rfl, Nat.le_of_ble_eq_true rfl⟩ hlk (Nat.le_of_ble_eq_true rfl) (Nat.le_of_ble_eq_true rfl) (Or.inl ⟨rfl, (by unfold k_told; rw [if_neg (fun h => h c5), if_pos c24])⟩)
  · have c5 := zb_f c5
    exact z_throw (E := "java/lang/IndexOutOfBoundsException") 7 S hnx hE hW hfl (by decide) x51 xi51 (fun _ h => List.mem_cons_of_mem _ (List.mem_append_right _ h)) z_castI z_otI rfl hl.1 dX3_told_8 dX3_told_11 dX3_told_12 dX3_told_14 dX3_told_17 ⟨Nat.le_of_ble_eq_true rfl, Nat.le_of_ble_eq_true rfl, Nat.le_of_ble_eq_true rfl, Nat.le_of_ble_eq_true rfl⟩ hlk (Nat.le_of_ble_eq_true rfl) (Nat.le_of_ble_eq_true rfl) (Or.inl ⟨rfl, (by unfold k_told; rw [if_pos c5])⟩)
set_option maxHeartbeats 4000000 in
set_option maxRecDepth 100000 in
theorem cX3_boat_ok (l : Launch) (D : va_G) (n : Nat) (ad cy sa : Nat → Nat) (sz : Nat) (hn : 28 ≤ n) (al : Nat → Nat → Int32) (ex : Nat → va_E) (x : Int32) (y : Int32) (B : Nat) (hB : al 0 6 = nI B) (hB4 : B ≤ 4) (hfl : l.stackTraces = false) : vx_Met l yX3_boat wsX3_boat ({ frames := 6, cells := 1, slots := 6, locals := 121 }) (PW D n ad cy sa sz (cC cy ad al ex) [.ref (ad 0), .int x, .int y]) (QXi D n ad sz (k_boat al x y) (v_boat al x y) (cC cy ad al ex)) (XW D n ad sz (zbad "java/lang/IndexOutOfBoundsException" "java/lang/IllegalArgumentException" (k_boat al x y)) (cC cy ad al ex)) 1 6 (Acc n ad sz) := by
  refine zs_vx (cc := cX3_boat) (maxL := 4) (ret := (some .int)) (own := RX3) (by decide) rfl rfl (Nat.le_of_ble_eq_true rfl) ?_
  intro p e s m args below meth c ls S hnx hE hW hr hlk hsz hav hl
  subst hsz
  have hx := S.1
  have hb := S.2.1
  have hown := S.2.2.2.1
  have hts := S.2.2.2.2
  have hl : lv_has ls 4 [(0, .ref (ad 0)), (1, .int x), (2, .int y)] := hl
  have f27 := hts (.fieldLink RX3 27 "PumiceSledge" "boats" "[LPumiceSledge$Boat;") (by decide +kernel)
  have hi3 : ∀ w ∈ wsX30, w ∈ wsX3_boat := by decide +kernel
  have hi0 : ∀ w ∈ wsX00, w ∈ wsX3_boat := by decide +kernel
  have x51 := hts (.classLink RX3 51 "java/lang/IndexOutOfBoundsException") (by decide +kernel)
  have xi51 := hts (.initialized "java/lang/IndexOutOfBoundsException") (by decide +kernel)
  refine lv_aload_n hx hb dX3_boat_0 rfl (lv_at hl 0 rfl) ?_
  refine lv_iload_n hx hb dX3_boat_1 rfl (lv_at hl 1 rfl) ?_
  refine z_cVi (As := [.int x]) (rest := []) (k := 0) S hE hW (cX3_isBoat_ok l D n ad cy sa s.heap.size hn al ex x) (cwV 1 hts gX3_boat_X3_isBoat rfl rfl rfl (by decide +kernel) ⟨Nat.le_of_ble_eq_true rfl, Nat.le_of_ble_eq_true rfl⟩) (Nat.lt_of_lt_of_le (by decide) hn) cC_0 rfl rfl rfl hl.1 rfl (Nat.le_of_ble_eq_true rfl) dX3_boat_2 ⟨Nat.le_of_ble_eq_true rfl, Nat.le_of_ble_eq_true rfl⟩ (fun r _ H locs hp hW => ?_)
  subst hp
  refine lv_if_ne (tgt := 18) hx hb dX3_boat_5 (by decide) (fun c5 => ?_) (fun c5 => ?_)
  · have c5 := zb_t c5
    refine lv_iload_n hx hb dX3_boat_18 rfl (lv_at hl 2 rfl) ?_
    refine lv_iconst (v := 0) hx hb dX3_boat_19 (by decide) ?_
    refine lv_bipush (v := 6) hx hb dX3_boat_20 (by decide) ?_
    refine z_pS (As := [.int y, .int 0, .int 6]) (rest := []) S hE hW (cX3_isWithin_ok l y 0 6) (va_cwS 3 hts gX3_boat_X3_isWithin rfl rfl rfl (by decide +kernel) ⟨Nat.le_of_ble_eq_true rfl, Nat.le_of_ble_eq_true rfl⟩) rfl hl.1 rfl (Nat.le_of_ble_eq_true rfl) dX3_boat_22 ⟨Nat.le_of_ble_eq_true rfl, Nat.le_of_ble_eq_true rfl⟩ (fun H locs hW => ?_)
    refine lv_if_ne (tgt := 38) hx hb dX3_boat_25 (by decide) (fun c25 => ?_) (fun c25 => ?_)
    · have c25 := zb_t c25
      obtain ⟨i, hi, rfl⟩ := zS_ex hB (by omega) c5
      obtain ⟨q, hq, rfl⟩ := zIn_ex 6 rfl (by decide) c25
      refine lv_aload_n hx hb dX3_boat_38 rfl (lv_at hl 0 rfl) ?_
      refine z_get (C := RX3) (T := TX3) (N := 12) (ci := 3) S hE hW hi3 rfl (Nat.lt_of_lt_of_le (by decide) hn) cC_0 5 (by decide) rfl f27 (v := .ref (ad 5)) rfl dX3_boat_39 ?_
      refine lv_iload_n hx hb dX3_boat_42 rfl (lv_at hl 1 rfl) ?_
      refine z_aldq (t0 := 2) (C := RX0) S hE hW (Nat.lt_of_lt_of_le (by decide) hn) cC_5 rfl i rfl (by omega) (by decide) (v := .ref (ad (24 + i))) rfl dX3_boat_43 ?_
      refine lv_astore_n (lv' := [(3, .ref (ad (24 + i))), (0, .ref (ad 0)), (1, .int (nI i)), (2, .int (nI q))]) hx hb dX3_boat_44 rfl hl (by decide) rfl (fun ls hl => ?_)
      refine lv_iload_n hx hb dX3_boat_45 rfl (lv_at hl 3 rfl) ?_
      rcases (show q = 0 ∨ q = 1 ∨ q = 2 ∨ q = 3 ∨ q = 4 ∨ q = 5 ∨ q = 6 by omega) with rfl | rfl | rfl | rfl | rfl | rfl | rfl
      · refine lv_tableIn (off := 38) (tgt := 84) hx hb dX3_boat_46 (by decide) (by decide) rfl (by decide) ?_
        refine lv_aload_n hx hb dX3_boat_84 rfl (lv_at hl 0 rfl) ?_
        refine z_getN (C := RX0) (T := TX0) (N := 3) (ci := 0) S hE hW hi0 rfl (Nat.lt_of_lt_of_le (kC_b (by omega)) hn) (cC_b (i := i) (by omega)) 0 (by decide) rfl 12 rfl (v := .int (al (24 + i) 0)) rfl dX3_boat_85 ?_
        exact zx_i S hW hr hlk () rfl ⟨(by unfold k_boat; rw [if_neg (fun h => h c5), if_neg (fun h => h c25)]), (by unfold v_boat; simp only [ix_nI (show i < 2 ^ 31 by omega)]; rw [if_pos (by decide)])⟩ (Nat.le_of_ble_eq_true rfl) (Nat.le_of_ble_eq_true rfl) dX3_boat_88
      · refine lv_tableIn (off := 43) (tgt := 89) hx hb dX3_boat_46 (by decide) (by decide) rfl (by decide) ?_
        refine lv_aload_n hx hb dX3_boat_89 rfl (lv_at hl 0 rfl) ?_
        refine z_getN (C := RX0) (T := TX0) (N := 3) (ci := 0) S hE hW hi0 rfl (Nat.lt_of_lt_of_le (kC_b (by omega)) hn) (cC_b (i := i) (by omega)) 1 (by decide) rfl 13 rfl (v := .int (al (24 + i) 1)) rfl dX3_boat_90 ?_
        exact zx_i S hW hr hlk () rfl ⟨(by unfold k_boat; rw [if_neg (fun h => h c5), if_neg (fun h => h c25)]), (by unfold v_boat; simp only [ix_nI (show i < 2 ^ 31 by omega)]; rw [if_neg (by decide), if_pos (by decide)])⟩ (Nat.le_of_ble_eq_true rfl) (Nat.le_of_ble_eq_true rfl) dX3_boat_93
      · refine lv_tableIn (off := 48) (tgt := 94) hx hb dX3_boat_46 (by decide) (by decide) rfl (by decide) ?_
        refine lv_aload_n hx hb dX3_boat_94 rfl (lv_at hl 0 rfl) ?_
        refine z_getN (C := RX0) (T := TX0) (N := 3) (ci := 0) S hE hW hi0 rfl (Nat.lt_of_lt_of_le (kC_b (by omega)) hn) (cC_b (i := i) (by omega)) 2 (by decide) rfl 14 rfl (v := .int (al (24 + i) 2)) rfl dX3_boat_95 ?_
        exact zx_i S hW hr hlk () rfl ⟨(by unfold k_boat; rw [if_neg (fun h => h c5), if_neg (fun h => h c25)]), (by unfold v_boat; simp only [ix_nI (show i < 2 ^ 31 by omega)]; rw [if_neg (by decide), if_neg (by decide), if_pos (by decide)])⟩ (Nat.le_of_ble_eq_true rfl) (Nat.le_of_ble_eq_true rfl) dX3_boat_98
      · refine lv_tableIn (off := 53) (tgt := 99) hx hb dX3_boat_46 (by decide) (by decide) rfl (by decide) ?_
        refine lv_aload_n hx hb dX3_boat_99 rfl (lv_at hl 0 rfl) ?_
        refine z_cVi (As := []) (rest := []) (k := (24 + i)) S hE hW (cX0_trim_ok l D n ad cy sa H.size hn al ex i (by omega)) (cwV 0 hts gX3_boat_X0_trim rfl rfl rfl (by decide +kernel) ⟨Nat.le_of_ble_eq_true rfl, Nat.le_of_ble_eq_true rfl⟩) (Nat.lt_of_lt_of_le (kC_b (by omega)) hn) (cC_b (i := i) (by omega)) rfl rfl rfl hl.1 rfl (Nat.le_of_ble_eq_true rfl) dX3_boat_100 ⟨Nat.le_of_ble_eq_true rfl, Nat.le_of_ble_eq_true rfl⟩ (fun r _ H locs hp hW => ?_)
        subst hp
        exact zx_i S hW hr hlk () rfl ⟨(by unfold k_boat; rw [if_neg (fun h => h c5), if_neg (fun h => h c25)]), (by unfold v_boat; simp only [ix_nI (show i < 2 ^ 31 by omega)]; rw [if_neg (by decide), if_neg (by decide), if_neg (by decide), if_pos (by decide)])⟩ (Nat.le_of_ble_eq_true rfl) (Nat.le_of_ble_eq_true rfl) dX3_boat_103
      · refine lv_tableIn (off := 58) (tgt := 104) hx hb dX3_boat_46 (by decide) (by decide) rfl (by decide) ?_
        refine lv_aload_n hx hb dX3_boat_104 rfl (lv_at hl 0 rfl) ?_
        refine z_cVi (As := []) (rest := []) (k := (24 + i)) S hE hW (cX0_depth_ok l D n ad cy sa H.size hn al ex i (by omega)) (cwV 0 hts gX3_boat_X0_depth rfl rfl rfl (by decide +kernel) ⟨Nat.le_of_ble_eq_true rfl, Nat.le_of_ble_eq_true rfl⟩) (Nat.lt_of_lt_of_le (kC_b (by omega)) hn) (cC_b (i := i) (by omega)) rfl rfl rfl hl.1 rfl (Nat.le_of_ble_eq_true rfl) dX3_boat_105 ⟨Nat.le_of_ble_eq_true rfl, Nat.le_of_ble_eq_true rfl⟩ (fun r _ H locs hp hW => ?_)
        subst hp
        exact zx_i S hW hr hlk () rfl ⟨(by unfold k_boat; rw [if_neg (fun h => h c5), if_neg (fun h => h c25)]), (by unfold v_boat; simp only [ix_nI (show i < 2 ^ 31 by omega)]; rw [if_neg (by decide), if_neg (by decide), if_neg (by decide), if_neg (by decide), if_pos (by decide)])⟩ (Nat.le_of_ble_eq_true rfl) (Nat.le_of_ble_eq_true rfl) dX3_boat_108
      · refine lv_tableIn (off := 63) (tgt := 109) hx hb dX3_boat_46 (by decide) (by decide) rfl (by decide) ?_
        refine lv_aload_n hx hb dX3_boat_109 rfl (lv_at hl 0 rfl) ?_
        refine z_cVi (As := []) (rest := []) (k := (24 + i)) S hE hW (cX0_canSail_ok l D n ad cy sa H.size hn al ex i (by omega)) (cwV 0 hts gX3_boat_X0_canSail rfl rfl rfl (by decide +kernel) ⟨Nat.le_of_ble_eq_true rfl, Nat.le_of_ble_eq_true rfl⟩) (Nat.lt_of_lt_of_le (kC_b (by omega)) hn) (cC_b (i := i) (by omega)) rfl rfl rfl hl.1 rfl (Nat.le_of_ble_eq_true rfl) dX3_boat_110 ⟨Nat.le_of_ble_eq_true rfl, Nat.le_of_ble_eq_true rfl⟩ (fun r _ H locs hp hW => ?_)
        subst hp
        refine lv_if_eq (tgt := 120) hx hb dX3_boat_113 (by decide) (fun c113 => ?_) (fun c113 => ?_)
        · have c113 := zb_f c113
          refine lv_iconst (v := 0) hx hb dX3_boat_120 (by decide) ?_
          exact zx_i S hW hr hlk () rfl ⟨(by unfold k_boat; rw [if_neg (fun h => h c5), if_neg (fun h => h c25)]), (by unfold v_boat; simp only [ix_nI (show i < 2 ^ 31 by omega)]; rw [if_neg (by decide), if_neg (by decide), if_neg (by decide), if_neg (by decide), if_neg (by decide), if_pos (by decide)]; exact (if_neg c113).symm)⟩ (Nat.le_of_ble_eq_true rfl) (Nat.le_of_ble_eq_true rfl) dX3_boat_121
        · have c113 := zb_t c113
          refine lv_iconst (v := 1) hx hb dX3_boat_116 (by decide) ?_
          refine lv_goto (tgt := 121) hx hb dX3_boat_117 (by decide) ?_
          exact zx_i S hW hr hlk () rfl ⟨(by unfold k_boat; rw [if_neg (fun h => h c5), if_neg (fun h => h c25)]), (by unfold v_boat; simp only [ix_nI (show i < 2 ^ 31 by omega)]; rw [if_neg (by decide), if_neg (by decide), if_neg (by decide), if_neg (by decide), if_neg (by decide), if_pos (by decide)]; exact (if_pos c113).symm)⟩ (Nat.le_of_ble_eq_true rfl) (Nat.le_of_ble_eq_true rfl) dX3_boat_121
      · refine lv_tableOut (tgt := 122) hx hb dX3_boat_46 (by decide) (by decide) ?_
        refine lv_aload_n hx hb dX3_boat_122 rfl (lv_at hl 0 rfl) ?_
        refine z_cVi (As := []) (rest := []) (k := (24 + i)) S hE hW (cX0_room_ok l D n ad cy sa H.size hn al ex i (by omega)) (cwV 0 hts gX3_boat_X0_room rfl rfl rfl (by decide +kernel) ⟨Nat.le_of_ble_eq_true rfl, Nat.le_of_ble_eq_true rfl⟩) (Nat.lt_of_lt_of_le (kC_b (by omega)) hn) (cC_b (i := i) (by omega)) rfl rfl rfl hl.1 rfl (Nat.le_of_ble_eq_true rfl) dX3_boat_123 ⟨Nat.le_of_ble_eq_true rfl, Nat.le_of_ble_eq_true rfl⟩ (fun r _ H locs hp hW => ?_)
        subst hp
        exact zx_i S hW hr hlk () rfl ⟨(by unfold k_boat; rw [if_neg (fun h => h c5), if_neg (fun h => h c25)]), (by unfold v_boat; simp only [ix_nI (show i < 2 ^ 31 by omega)]; rw [if_neg (by decide), if_neg (by decide), if_neg (by decide), if_neg (by decide), if_neg (by decide), if_neg (by decide)])⟩ (Nat.le_of_ble_eq_true rfl) (Nat.le_of_ble_eq_true rfl) dX3_boat_126
    · have c25 := zb_f c25
      exact z_throw (E := "java/lang/IndexOutOfBoundsException") 20 S hnx hE hW hfl (by decide) x51 xi51 (fun _ h => List.mem_cons_of_mem _ (List.mem_append_right _ h)) z_castI z_otI rfl hl.1 dX3_boat_28 dX3_boat_31 dX3_boat_32 dX3_boat_34 dX3_boat_37 ⟨Nat.le_of_ble_eq_true rfl, Nat.le_of_ble_eq_true rfl, Nat.le_of_ble_eq_true rfl, Nat.le_of_ble_eq_true rfl⟩ hlk (Nat.le_of_ble_eq_true rfl) (Nat.le_of_ble_eq_true rfl) (Or.inl ⟨rfl, (by unfold k_boat; rw [if_neg (fun h => h c5), if_pos c25])⟩)
  · have c5 := zb_f c5
    exact z_throw (E := "java/lang/IndexOutOfBoundsException") 13 S hnx hE hW hfl (by decide) x51 xi51 (fun _ h => List.mem_cons_of_mem _ (List.mem_append_right _ h)) z_castI z_otI rfl hl.1 dX3_boat_8 dX3_boat_11 dX3_boat_12 dX3_boat_14 dX3_boat_17 ⟨Nat.le_of_ble_eq_true rfl, Nat.le_of_ble_eq_true rfl, Nat.le_of_ble_eq_true rfl, Nat.le_of_ble_eq_true rfl⟩ hlk (Nat.le_of_ble_eq_true rfl) (Nat.le_of_ble_eq_true rfl) (Or.inl ⟨rfl, (by unfold k_boat; rw [if_pos c5])⟩)
set_option maxHeartbeats 4000000 in
set_option maxRecDepth 100000 in
theorem cX3_beach_ok (l : Launch) (D : va_G) (n : Nat) (ad cy sa : Nat → Nat) (sz : Nat) (hn : 28 ≤ n) (al : Nat → Nat → Int32) (ex : Nat → va_E) (x : Int32)  (hfl : l.stackTraces = false) : vx_Met l yX3_beach wsX3_beach ({ frames := 6, cells := 1, slots := 6, locals := 110 }) (PW D n ad cy sa sz (cC cy ad al ex) [.ref (ad 0), .int x]) (QXi D n ad sz (k_beach al x) (v_beach al x) (cC cy ad al ex)) (XW D n ad sz (zbad "java/lang/IndexOutOfBoundsException" "java/lang/IllegalArgumentException" (k_beach al x)) (cC cy ad al ex)) 1 6 (Acc n ad sz) := by
  refine zs_vx (cc := cX3_beach) (maxL := 2) (ret := (some .int)) (own := RX3) (by decide) rfl rfl (Nat.le_of_ble_eq_true rfl) ?_
  intro p e s m args below meth c ls S hnx hE hW hr hlk hsz hav hl
  subst hsz
  have hx := S.1
  have hb := S.2.1
  have hown := S.2.2.2.1
  have hts := S.2.2.2.2
  have hl : lv_has ls 2 [(0, .ref (ad 0)), (1, .int x)] := hl
  have f34 := hts (.fieldLink RX3 34 "PumiceSledge" "shore" "LPumiceSledge$Shore;") (by decide +kernel)
  have hi3 : ∀ w ∈ wsX30, w ∈ wsX3_beach := by decide +kernel
  have hi1 : ∀ w ∈ wsX10, w ∈ wsX3_beach := by decide +kernel
  have x51 := hts (.classLink RX3 51 "java/lang/IndexOutOfBoundsException") (by decide +kernel)
  have xi51 := hts (.initialized "java/lang/IndexOutOfBoundsException") (by decide +kernel)
  refine lv_iload_n hx hb dX3_beach_0 rfl (lv_at hl 1 rfl) ?_
  refine z_pS (As := [.int x]) (rest := []) S hE hW (cX3_isKind_ok l x) (va_cwS 1 hts gX3_beach_X3_isKind rfl rfl rfl (by decide +kernel) ⟨Nat.le_of_ble_eq_true rfl, Nat.le_of_ble_eq_true rfl⟩) rfl hl.1 rfl (Nat.le_of_ble_eq_true rfl) dX3_beach_1 ⟨Nat.le_of_ble_eq_true rfl, Nat.le_of_ble_eq_true rfl⟩ (fun H locs hW => ?_)
  refine lv_if_ne (tgt := 17) hx hb dX3_beach_4 (by decide) (fun c4 => ?_) (fun c4 => ?_)
  · have c4 := zb_t c4
    obtain ⟨j, hj, rfl⟩ := zIn_ex 2 rfl (by decide) c4
    refine lv_aload_n hx hb dX3_beach_17 rfl (lv_at hl 0 rfl) ?_
    refine z_get (C := RX3) (T := TX3) (N := 12) (ci := 3) S hE hW hi3 rfl (Nat.lt_of_lt_of_le (by decide) hn) cC_0 7 (by decide) rfl f34 (v := .ref (ad (6 + 0))) rfl dX3_beach_18 ?_
    refine z_getN (C := RX1) (T := TX1) (N := 2) (ci := 1) S hE hW hi1 rfl (Nat.lt_of_lt_of_le (kC_h (by decide)) hn) (cC_h (i := 0) (by decide)) 0 (by decide) rfl 1 rfl (v := .ref (ad (8 + 0))) rfl dX3_beach_21 ?_
    refine lv_iload_n hx hb dX3_beach_24 rfl (lv_at hl 1 rfl) ?_
    refine z_ald S hE hW (Nat.lt_of_lt_of_le (kC_hs (by decide)) hn) (cC_hs (i := 0) (by decide)) j rfl (by omega) (by decide) (v := al (8 + 0) j) rfl dX3_beach_25 ?_
    exact zx_i S hW hr hlk () rfl ⟨(by unfold k_beach; rw [if_neg (fun h => h c4)]), (by unfold v_beach; rw [ix_nI (show j < 2 ^ 31 by omega)])⟩ (Nat.le_of_ble_eq_true rfl) (Nat.le_of_ble_eq_true rfl) dX3_beach_26
  · have c4 := zb_f c4
    exact z_throw (E := "java/lang/IndexOutOfBoundsException") 14 S hnx hE hW hfl (by decide) x51 xi51 (fun _ h => List.mem_cons_of_mem _ (List.mem_append_right _ h)) z_castI z_otI rfl hl.1 dX3_beach_7 dX3_beach_10 dX3_beach_11 dX3_beach_13 dX3_beach_16 ⟨Nat.le_of_ble_eq_true rfl, Nat.le_of_ble_eq_true rfl, Nat.le_of_ble_eq_true rfl, Nat.le_of_ble_eq_true rfl⟩ hlk (Nat.le_of_ble_eq_true rfl) (Nat.le_of_ble_eq_true rfl) (Or.inl ⟨rfl, (by unfold k_beach; rw [if_pos c4])⟩)
set_option maxHeartbeats 4000000 in
set_option maxRecDepth 100000 in
theorem cX3_count_ok (l : Launch) (D : va_G) (n : Nat) (ad cy sa : Nat → Nat) (sz : Nat) (hn : 28 ≤ n) (al : Nat → Nat → Int32) (ex : Nat → va_E) (x : Int32) (N : Nat) (hN : al 0 4 = nI N) (hN6 : N ≤ 6) (h : Nat) (hh : al 0 8 = nI h) (hh3 : h < 2 ^ 30) (hfl : l.stackTraces = false) : vx_Met l yX3_count wsX3_count ({ frames := 6, cells := 1, slots := 6, locals := 110 }) (PW D n ad cy sa sz (cC cy ad al ex) [.ref (ad 0), .int x]) (QXi D n ad sz (k_count al x) (v_count al x) (cC cy ad al ex)) (XW D n ad sz (zbad "java/lang/IndexOutOfBoundsException" "java/lang/IllegalArgumentException" (k_count al x)) (cC cy ad al ex)) 1 6 (Acc n ad sz) := by
  refine zs_vx (cc := cX3_count) (maxL := 2) (ret := (some .int)) (own := RX3) (by decide) rfl rfl (Nat.le_of_ble_eq_true rfl) ?_
  intro p e s m args below meth c ls S hnx hE hW hr hlk hsz hav hl
  subst hsz
  have hx := S.1
  have hb := S.2.1
  have hown := S.2.2.2.1
  have hts := S.2.2.2.2
  have hl : lv_has ls 2 [(0, .ref (ad 0)), (1, .int x)] := hl
  have f193 := hts (.fieldLink RX3 193 "PumiceSledge" "hour" "I") (by decide +kernel)
  have hi3 : ∀ w ∈ wsX30, w ∈ wsX3_count := by decide +kernel
  have f75 := hts (.fieldLink RX3 75 "PumiceSledge" "sledgeCount" "I") (by decide +kernel)
  have f121 := hts (.fieldLink RX3 121 "PumiceSledge" "boatCount" "I") (by decide +kernel)
  have f170 := hts (.fieldLink RX3 170 "PumiceSledge" "coins" "I") (by decide +kernel)
  have f34 := hts (.fieldLink RX3 34 "PumiceSledge" "shore" "LPumiceSledge$Shore;") (by decide +kernel)
  have hi1 : ∀ w ∈ wsX10, w ∈ wsX3_count := by decide +kernel
  have x51 := hts (.classLink RX3 51 "java/lang/IndexOutOfBoundsException") (by decide +kernel)
  have xi51 := hts (.initialized "java/lang/IndexOutOfBoundsException") (by decide +kernel)
  refine lv_iload_n hx hb dX3_count_0 rfl (lv_at hl 1 rfl) ?_
  refine lv_iconst (v := 0) hx hb dX3_count_1 (by decide) ?_
  refine lv_bipush (v := 8) hx hb dX3_count_2 (by decide) ?_
  refine z_pS (As := [.int x, .int 0, .int 8]) (rest := []) S hE hW (cX3_isWithin_ok l x 0 8) (va_cwS 3 hts gX3_count_X3_isWithin rfl rfl rfl (by decide +kernel) ⟨Nat.le_of_ble_eq_true rfl, Nat.le_of_ble_eq_true rfl⟩) rfl hl.1 rfl (Nat.le_of_ble_eq_true rfl) dX3_count_4 ⟨Nat.le_of_ble_eq_true rfl, Nat.le_of_ble_eq_true rfl⟩ (fun H locs hW => ?_)
  refine lv_if_ne (tgt := 20) hx hb dX3_count_7 (by decide) (fun c7 => ?_) (fun c7 => ?_)
  · have c7 := zb_t c7
    obtain ⟨q, hq, rfl⟩ := zIn_ex 8 rfl (by decide) c7
    refine lv_iload_n hx hb dX3_count_20 rfl (lv_at hl 1 rfl) ?_
    rcases (show q = 0 ∨ q = 1 ∨ q = 2 ∨ q = 3 ∨ q = 4 ∨ q = 5 ∨ q = 6 ∨ q = 7 ∨ q = 8 by omega) with rfl | rfl | rfl | rfl | rfl | rfl | rfl | rfl | rfl
    · refine lv_tableIn (off := 47) (tgt := 68) hx hb dX3_count_21 (by decide) (by decide) rfl (by decide) ?_
      refine lv_aload_n hx hb dX3_count_68 rfl (lv_at hl 0 rfl) ?_
      refine z_get (C := RX3) (T := TX3) (N := 12) (ci := 3) S hE hW hi3 rfl (Nat.lt_of_lt_of_le (by decide) hn) cC_0 8 (by decide) rfl f193 (v := .int (al 0 8)) rfl dX3_count_69 ?_
      exact zx_i S hW hr hlk () rfl ⟨(by unfold k_count; rw [if_neg (fun h => h c7)]), (by unfold v_count; rw [if_pos (by decide)])⟩ (Nat.le_of_ble_eq_true rfl) (Nat.le_of_ble_eq_true rfl) dX3_count_72
    · refine lv_tableIn (off := 52) (tgt := 73) hx hb dX3_count_21 (by decide) (by decide) rfl (by decide) ?_
      refine lv_aload_n hx hb dX3_count_73 rfl (lv_at hl 0 rfl) ?_
      refine lv_aload_n hx hb dX3_count_74 rfl (lv_at hl 0 rfl) ?_
      refine z_get (C := RX3) (T := TX3) (N := 12) (ci := 3) S hE hW hi3 rfl (Nat.lt_of_lt_of_le (by decide) hn) cC_0 8 (by decide) rfl f193 (v := .int (al 0 8)) rfl dX3_count_75 ?_
      refine z_top2 (y := nI h) (hh) ?_
      refine z_cVi (As := [.int (nI h)]) (rest := []) (k := 0) S hE hW (cX3_gustAt_ok l D n ad cy sa H.size hn al ex h (by omega)) (cwV 1 hts gX3_count_X3_gustAt rfl rfl rfl (by decide +kernel) ⟨Nat.le_of_ble_eq_true rfl, Nat.le_of_ble_eq_true rfl⟩) (Nat.lt_of_lt_of_le (by decide) hn) cC_0 rfl rfl rfl hl.1 rfl (Nat.le_of_ble_eq_true rfl) dX3_count_78 ⟨Nat.le_of_ble_eq_true rfl, Nat.le_of_ble_eq_true rfl⟩ (fun r _ H locs hp hW => ?_)
      subst hp
      exact zx_i S hW hr hlk () rfl ⟨(by unfold k_count; rw [if_neg (fun h => h c7)]), (by unfold v_count; rw [if_neg (by decide), if_pos (by decide), hh, ix_nI (show h < 2 ^ 31 by omega)])⟩ (Nat.le_of_ble_eq_true rfl) (Nat.le_of_ble_eq_true rfl) dX3_count_81
    · refine lv_tableIn (off := 61) (tgt := 82) hx hb dX3_count_21 (by decide) (by decide) rfl (by decide) ?_
      refine lv_aload_n hx hb dX3_count_82 rfl (lv_at hl 0 rfl) ?_
      refine z_get (C := RX3) (T := TX3) (N := 12) (ci := 3) S hE hW hi3 rfl (Nat.lt_of_lt_of_le (by decide) hn) cC_0 4 (by decide) rfl f75 (v := .int (al 0 4)) rfl dX3_count_83 ?_
      exact zx_i S hW hr hlk () rfl ⟨(by unfold k_count; rw [if_neg (fun h => h c7)]), (by unfold v_count; rw [if_neg (by decide), if_neg (by decide), if_pos (by decide)])⟩ (Nat.le_of_ble_eq_true rfl) (Nat.le_of_ble_eq_true rfl) dX3_count_86
    · refine lv_tableIn (off := 66) (tgt := 87) hx hb dX3_count_21 (by decide) (by decide) rfl (by decide) ?_
      refine lv_aload_n hx hb dX3_count_87 rfl (lv_at hl 0 rfl) ?_
      refine z_get (C := RX3) (T := TX3) (N := 12) (ci := 3) S hE hW hi3 rfl (Nat.lt_of_lt_of_le (by decide) hn) cC_0 6 (by decide) rfl f121 (v := .int (al 0 6)) rfl dX3_count_88 ?_
      exact zx_i S hW hr hlk () rfl ⟨(by unfold k_count; rw [if_neg (fun h => h c7)]), (by unfold v_count; rw [if_neg (by decide), if_neg (by decide), if_neg (by decide), if_pos (by decide)])⟩ (Nat.le_of_ble_eq_true rfl) (Nat.le_of_ble_eq_true rfl) dX3_count_91
    · refine lv_tableIn (off := 71) (tgt := 92) hx hb dX3_count_21 (by decide) (by decide) rfl (by decide) ?_
      refine lv_aload_n hx hb dX3_count_92 rfl (lv_at hl 0 rfl) ?_
      refine z_get (C := RX3) (T := TX3) (N := 12) (ci := 3) S hE hW hi3 rfl (Nat.lt_of_lt_of_le (by decide) hn) cC_0 9 (by decide) rfl f170 (v := .int (al 0 9)) rfl dX3_count_93 ?_
      exact zx_i S hW hr hlk () rfl ⟨(by unfold k_count; rw [if_neg (fun h => h c7)]), (by unfold v_count; rw [if_neg (by decide), if_neg (by decide), if_neg (by decide), if_neg (by decide), if_pos (by decide)])⟩ (Nat.le_of_ble_eq_true rfl) (Nat.le_of_ble_eq_true rfl) dX3_count_96
    · refine lv_tableIn (off := 76) (tgt := 97) hx hb dX3_count_21 (by decide) (by decide) rfl (by decide) ?_
      refine lv_aload_n hx hb dX3_count_97 rfl (lv_at hl 0 rfl) ?_
      refine z_cVi (As := []) (rest := []) (k := 0) S hE hW (cX3_sacksAboard_ok l D n ad cy sa H.size hn al ex N hN hN6) (cwV 0 hts gX3_count_X3_sacksAboard rfl rfl rfl (by decide +kernel) ⟨Nat.le_of_ble_eq_true rfl, Nat.le_of_ble_eq_true rfl⟩) (Nat.lt_of_lt_of_le (by decide) hn) cC_0 rfl rfl rfl hl.1 rfl (Nat.le_of_ble_eq_true rfl) dX3_count_98 ⟨Nat.le_of_ble_eq_true rfl, Nat.le_of_ble_eq_true rfl⟩ (fun r _ H locs hp hW => ?_)
      subst hp
      exact zx_i S hW hr hlk () rfl ⟨(by unfold k_count; rw [if_neg (fun h => h c7)]), (by unfold v_count; rw [if_neg (by decide), if_neg (by decide), if_neg (by decide), if_neg (by decide), if_neg (by decide), if_pos (by decide), hN, ix_nI (show N < 2 ^ 31 by omega)])⟩ (Nat.le_of_ble_eq_true rfl) (Nat.le_of_ble_eq_true rfl) dX3_count_101
    · refine lv_tableIn (off := 81) (tgt := 102) hx hb dX3_count_21 (by decide) (by decide) rfl (by decide) ?_
      refine lv_aload_n hx hb dX3_count_102 rfl (lv_at hl 0 rfl) ?_
      refine z_get (C := RX3) (T := TX3) (N := 12) (ci := 3) S hE hW hi3 rfl (Nat.lt_of_lt_of_le (by decide) hn) cC_0 7 (by decide) rfl f34 (v := .ref (ad (6 + 0))) rfl dX3_count_103 ?_
      refine z_cVi (As := []) (rest := []) (k := (6 + 0)) S hE hW (cX1_allSacks_ok l D n ad cy sa H.size hn al ex 0 (by decide)) (cwV 0 hts gX3_count_X1_allSacks rfl rfl rfl (by decide +kernel) ⟨Nat.le_of_ble_eq_true rfl, Nat.le_of_ble_eq_true rfl⟩) (Nat.lt_of_lt_of_le (kC_h (by decide)) hn) (cC_h (i := 0) (by decide)) rfl rfl rfl hl.1 rfl (Nat.le_of_ble_eq_true rfl) dX3_count_106 ⟨Nat.le_of_ble_eq_true rfl, Nat.le_of_ble_eq_true rfl⟩ (fun r _ H locs hp hW => ?_)
      subst hp
      exact zx_i S hW hr hlk () rfl ⟨(by unfold k_count; rw [if_neg (fun h => h c7)]), (by unfold v_count; rw [if_neg (by decide), if_neg (by decide), if_neg (by decide), if_neg (by decide), if_neg (by decide), if_neg (by decide), if_pos (by decide)])⟩ (Nat.le_of_ble_eq_true rfl) (Nat.le_of_ble_eq_true rfl) dX3_count_109
    · refine lv_tableIn (off := 89) (tgt := 110) hx hb dX3_count_21 (by decide) (by decide) rfl (by decide) ?_
      refine lv_aload_n hx hb dX3_count_110 rfl (lv_at hl 0 rfl) ?_
      refine z_get (C := RX3) (T := TX3) (N := 12) (ci := 3) S hE hW hi3 rfl (Nat.lt_of_lt_of_le (by decide) hn) cC_0 7 (by decide) rfl f34 (v := .ref (ad (6 + 0))) rfl dX3_count_111 ?_
      refine z_getN (C := RX1) (T := TX1) (N := 2) (ci := 1) S hE hW hi1 rfl (Nat.lt_of_lt_of_le (kC_h (by decide)) hn) (cC_h (i := 0) (by decide)) 1 (by decide) rfl 4 rfl (v := .int (al (6 + 0) 1)) rfl dX3_count_114 ?_
      exact zx_i S hW hr hlk () rfl ⟨(by unfold k_count; rw [if_neg (fun h => h c7)]), (by unfold v_count; rw [if_neg (by decide), if_neg (by decide), if_neg (by decide), if_neg (by decide), if_neg (by decide), if_neg (by decide), if_neg (by decide), if_pos (by decide)])⟩ (Nat.le_of_ble_eq_true rfl) (Nat.le_of_ble_eq_true rfl) dX3_count_117
    · refine lv_tableOut (tgt := 118) hx hb dX3_count_21 (by decide) (by decide) ?_
      refine lv_aload_n hx hb dX3_count_118 rfl (lv_at hl 0 rfl) ?_
      refine z_cVi (As := []) (rest := []) (k := 0) S hE hW (cX3_allStones_ok l D n ad cy sa H.size hn al ex ) (cwV 0 hts gX3_count_X3_allStones rfl rfl rfl (by decide +kernel) ⟨Nat.le_of_ble_eq_true rfl, Nat.le_of_ble_eq_true rfl⟩) (Nat.lt_of_lt_of_le (by decide) hn) cC_0 rfl rfl rfl hl.1 rfl (Nat.le_of_ble_eq_true rfl) dX3_count_119 ⟨Nat.le_of_ble_eq_true rfl, Nat.le_of_ble_eq_true rfl⟩ (fun r _ H locs hp hW => ?_)
      subst hp
      exact zx_i S hW hr hlk () rfl ⟨(by unfold k_count; rw [if_neg (fun h => h c7)]), (by unfold v_count; rw [if_neg (by decide), if_neg (by decide), if_neg (by decide), if_neg (by decide), if_neg (by decide), if_neg (by decide), if_neg (by decide), if_neg (by decide)])⟩ (Nat.le_of_ble_eq_true rfl) (Nat.le_of_ble_eq_true rfl) dX3_count_122
  · have c7 := zb_f c7
    exact z_throw (E := "java/lang/IndexOutOfBoundsException") 21 S hnx hE hW hfl (by decide) x51 xi51 (fun _ h => List.mem_cons_of_mem _ (List.mem_append_right _ h)) z_castI z_otI rfl hl.1 dX3_count_10 dX3_count_13 dX3_count_14 dX3_count_16 dX3_count_19 ⟨Nat.le_of_ble_eq_true rfl, Nat.le_of_ble_eq_true rfl, Nat.le_of_ble_eq_true rfl, Nat.le_of_ble_eq_true rfl⟩ hlk (Nat.le_of_ble_eq_true rfl) (Nat.le_of_ble_eq_true rfl) (Or.inl ⟨rfl, (by unfold k_count; rw [if_pos c7])⟩)
