/-! the reference: its calls -/
theorem z_ne {N M : Nat} (h : N ≤ M) (q : ¬ nI N = nI M) : N < M := by
  rcases Nat.lt_or_ge N M with r | r
  · exact r
  · exact absurd (by rw [show N = M by omega]) q
theorem z_fullE {o a : Nat} (h1 : a ≤ o) (h2 : o ≤ 8) : (nI o ≤ nI a ∨ ¬ nI a < 8) ↔ nI a = nI o := by
  rw [nI_leI (by omega) (by omega), nI_eq (by omega) (by omega), show (8 : Int32) = nI 8 from rfl]
  constructor
  · rintro (h | h)
    · omega
    · rcases Nat.lt_or_ge a 8 with q | q
      · exact absurd (nI_lt q (by decide)) h
      · omega
  · intro h
    exact Or.inl (by omega)
theorem z_stw (k : Int32) : ∃ s, s ≤ 80 ∧ stw k = nI s := by
  unfold stw
  split
  · exact ⟨80, by omega, rfl⟩
  · split
    · exact ⟨50, by omega, rfl⟩
    · exact ⟨20, by omega, rfl⟩
theorem z_roomE {x y z : Int32} {L f t : Nat} (k : Int32) (hx : x = nI L) (hy : y = nI f) (hz : z = nI t) (h : f + t ≤ L) (hL : L ≤ 900) : (y + z) + stw k ≤ x ↔ stw k ≤ (x - y) - z := by
  obtain ⟨s, hs, e⟩ := z_stw k
  rw [hx, hy, hz, e, nI_add, nI_add, pk_sub (by omega), pk_sub (by omega), nI_leI (by omega) (by omega), nI_leI (by omega) (by omega)]
  omega
theorem z_lt10 {x y : Int32} : x < y ↔ ¬ y ≤ x := by
  rw [Int32.lt_iff_toInt_lt, Int32.le_iff_toInt_le]
  omega
theorem z_sk {x : Int32} {c : Nat} (hx : x = nI c) (hc : c < 2 ^ 31) : 1 ≤ x ↔ ¬ x = 0 := by
  rw [hx, show (1 : Int32) = nI 1 from rfl, show (0 : Int32) = nI 0 from rfl, nI_leI (by decide) hc, nI_eq hc (by decide)]
  omega
/-- rows of sledges, boats and sacks, as far as the answers need them -/
def rowO (al : Nat → Nat → Int32) (N : Nat) : Prop := ∀ i, i < N → ∃ o a, al (10 + i) 0 = nI o ∧ al (10 + i) 2 = nI a ∧ a ≤ o ∧ o ≤ 8
def boatO (al : Nat → Nat → Int32) (B : Nat) : Prop := ∀ b, b < B → ∃ L f t, al (24 + b) 0 = nI L ∧ al (24 + b) 1 = nI f ∧ al (24 + b) 2 = nI t ∧ f + t ≤ L ∧ L ≤ 900
def sackO (al : Nat → Nat → Int32) : Prop := ∀ k, k < 3 → ∃ c, al (8 + 0) k = nI c ∧ c < 2 ^ 31
/-- a new sledge's row -/
theorem e_bu {al : Nat → Nat → Int32} {th : Int32} {N : Nat} (hN : al 0 4 = nI N) (hN6 : N < 6) (h20 : al (10 + N) 3 = 20) : zup (zup (enc al th) 4 (12 * N + 2) 20) 0 1 (nI N + 1) = enc (zup al 0 4 (nI N + 1)) th := by
  refine enc_ext ?_ ?_ ?_ ?_ ?_ ?_ ?_ (fun k hk => by rw [zup_o (by omega), zup_o (by omega), enc_7 hk])
  · rw [zup_k, zup_o (by decide)]
    funext j
    show (if j = 1 then nI N + 1 else if j = 0 then th else if j = 1 then al 0 4 else if j = 2 then al 0 6 else 0) = (if j = 0 then th else if j = 1 then zup al 0 4 (nI N + 1) 0 4 else if j = 2 then zup al 0 4 (nI N + 1) 0 6 else 0)
    rw [zup_k, up_s, up_n (by decide)]
    by_cases q : j = 1
    · subst q; rfl
    · rw [if_neg q, if_neg q, if_neg q]
  · rw [zup_o (by decide), zup_o (by decide), zup_o (by decide)]; rfl
  · rw [zup_o (by decide), zup_o (by decide), zup_o (by decide)]; rfl
  · rw [zup_o (by decide), zup_o (by decide), zup_o (by decide)]; rfl
  · rw [zup_o (by decide), zup_k]
    funext j
    show (if j = 12 * N + 2 then 20 else slo al j) = slo (zup al 0 4 (nI N + 1)) j
    have e0 : zup al 0 4 (nI N + 1) 0 4 = nI (N + 1) := by rw [zup_k, up_s, nI_1]
    unfold slo
    rw [e0, hN, ix_nI (show N < 2 ^ 31 by omega), ix_nI (show N + 1 < 2 ^ 31 by omega), zup_o (a := 10 + j / 12) (by omega), zup_o (a := 17 + j / 12) (by omega)]
    by_cases q : j = 12 * N + 2
    · subst q
      rw [if_pos rfl, if_neg (by omega), if_neg (by omega), if_neg (by omega), if_pos (by omega), if_pos (by omega), show (12 * N + 2) / 12 = N by omega]
      exact h20.symm
    · rw [if_neg q]
      by_cases q1 : 72 ≤ j
      · rw [if_pos q1, if_pos q1]
      · rw [if_neg q1, if_neg q1]
        by_cases q2 : j % 12 = 2
        · rw [if_neg (show ¬ j % 12 = 0 by omega), if_neg (show ¬ j % 12 = 1 by omega), if_pos q2, if_neg (show ¬ j % 12 = 0 by omega), if_neg (show ¬ j % 12 = 1 by omega), if_pos q2]
          by_cases q3 : j / 12 < N
          · rw [if_pos q3, if_pos (by omega)]
          · rw [if_neg q3, if_neg (by omega)]
        · rw [if_neg q2, if_neg q2]
  · rw [zup_o (by decide), zup_o (by decide)]
    show fle al = fle (zup al 0 4 (nI N + 1))
    rw [fle_o (by omega)]
  · rw [zup_o (by decide), zup_o (by decide)]
    show num al = num (zup al 0 4 (nI N + 1))
    rw [num_o (by omega) (by omega) (by omega)]
set_option maxHeartbeats 4000000 in
set_option maxRecDepth 100000 in
theorem cX4_set_ok (l : Launch) (D : va_G) (n : Nat) (ad cy sa : Nat → Nat) (sz : Nat) (hn : 35 ≤ n) (al : Nat → Nat → Int32) (th : Int32) (ex : Nat → va_E) (x : Int32) (y : Int32) (z : Int32)  : Met l yX4_set wsX4_set ({ frames := 2, cells := 0, slots := 0, locals := 42 }) (PW D n ad cy sa sz (cM cy ad (enc al th) ex) [.ref (ad 28), .int x, .int y, .int z]) (QDi D n ad sz (if k_set al x y z = 0 then v_set al x y z else 0) (cM cy ad (enc (if k_set al x y z = 0 then u_set al x y z else al) (nI (k_set al x y z))) ex)) 0 0 (Acc n ad sz) := by
  refine zs_met (cc := cX4_set) (maxL := 5) (ret := (some .int)) (own := RX4) (by decide) rfl rfl (Nat.le_of_ble_eq_true rfl) ?_
  intro p e s m args below meth c ls S hE hW hr hlk hsz hav hl
  subst hsz
  have hx := S.1
  have hb := S.2.1
  have hown := S.2.2.2.1
  have hts := S.2.2.2.2
  have hl : lv_has ls 5 [(0, .ref (ad 28)), (1, .int x), (2, .int y), (3, .int z)] := hl
  have f28 := hts (.fieldLink RX4 28 "PumiceSledgeModel" "thrown" "I") (by decide +kernel)
  have hi4 : ∀ w ∈ wsX40, w ∈ wsX4_set := by decide +kernel
  have f9 := hts (.fieldLink RX4 9 "PumiceSledgeModel" "stones" "[I") (by decide +kernel)
  have f13 := hts (.fieldLink RX4 13 "PumiceSledgeModel" "weights" "[I") (by decide +kernel)
  refine lv_aload_n hx hb dX4_set_0 rfl (lv_at hl 0 rfl) ?_
  refine lv_iconst (v := 0) hx hb dX4_set_1 (by decide) ?_
  refine z_put (ce' := cM cy ad (zup (enc al th) 0 0 0) ex) (C := RX4) (T := TX4) (N := 9) (ci := 4) S hE hW hi4 tyX4 tyX4_ok nmX4 rfl (Nat.lt_of_lt_of_le (by decide) hn) cM_0 0 (by decide) rfl f28 rfl rfl (Nat.le_of_ble_eq_true rfl) (pM_0 (by decide)) (fun j h => cM_o h) dX4_set_2 (fun H locs hW => ?_)
  rw [e_th] at hW
  refine lv_iload_n hx hb dX4_set_5 rfl (lv_at hl 1 rfl) ?_
  refine z_pS (As := [.int x]) (rest := []) S hE hW (cX4_isLayer_ok l x) (va_cwS 1 hts gX4_set_X4_isLayer rfl rfl rfl (by decide +kernel) ⟨Nat.le_of_ble_eq_true rfl, Nat.le_of_ble_eq_true rfl⟩) rfl hl.1 rfl (Nat.le_of_ble_eq_true rfl) dX4_set_6 ⟨Nat.le_of_ble_eq_true rfl, Nat.le_of_ble_eq_true rfl⟩ (fun H locs hW => ?_)
  refine lv_if_ne (tgt := 18) hx hb dX4_set_9 (by decide) (fun c9 => ?_) (fun c9 => ?_)
  · have c9 := zb_t c9
    refine lv_iload_n hx hb dX4_set_18 rfl (lv_at hl 2 rfl) ?_
    refine lv_iconst (v := 0) hx hb dX4_set_19 (by decide) ?_
    refine lv_sipush (v := 500) hx hb dX4_set_20 (by decide) ?_
    refine z_pS (As := [.int y, .int 0, .int 500]) (rest := []) S hE hW (cX4_isIn_ok l y 0 500) (va_cwS 3 hts gX4_set_X4_isIn rfl rfl rfl (by decide +kernel) ⟨Nat.le_of_ble_eq_true rfl, Nat.le_of_ble_eq_true rfl⟩) rfl hl.1 rfl (Nat.le_of_ble_eq_true rfl) dX4_set_23 ⟨Nat.le_of_ble_eq_true rfl, Nat.le_of_ble_eq_true rfl⟩ (fun H locs hW => ?_)
    refine lv_if_eq (tgt := 39) hx hb dX4_set_26 (by decide) (fun c26 => ?_) (fun c26 => ?_)
    · have c26 := zb_f c26
      refine lv_aload_n hx hb dX4_set_39 rfl (lv_at hl 0 rfl) ?_
      refine lv_iconst (v := 2) hx hb dX4_set_40 (by decide) ?_
      refine z_cVi (As := [.int 2]) (rest := []) (k := 28) S hE hW (cX4_fail_ok l D n ad cy sa H.size hn al 0 ex 2) (cwV 1 hts gX4_set_X4_fail rfl rfl rfl (by decide +kernel) ⟨Nat.le_of_ble_eq_true rfl, Nat.le_of_ble_eq_true rfl⟩) (Nat.lt_of_lt_of_le (by decide) hn) cM_0 rfl rfl rfl hl.1 rfl (Nat.le_of_ble_eq_true rfl) dX4_set_41 ⟨Nat.le_of_ble_eq_true rfl, Nat.le_of_ble_eq_true rfl⟩ (fun r _ H locs hp hW => ?_)
      subst hp
      have hk9 : k_set al x y z = 2 := by unfold k_set; rw [if_neg (fun h => h c9), if_pos c26]
      exact ze_i S hW hr hlk () (congrArg (fun z => cM cy ad z ex) (by rw [hk9, if_neg (by decide)] <;> rfl)) (by rw [hk9, if_neg (by decide)]) (Nat.le_of_ble_eq_true rfl) (Nat.le_of_ble_eq_true rfl) dX4_set_44
    · have c26 := zb_t c26
      refine lv_iload_n hx hb dX4_set_29 rfl (lv_at hl 3 rfl) ?_
      refine lv_iconst (v := 1) hx hb dX4_set_30 (by decide) ?_
      refine lv_bipush (v := 9) hx hb dX4_set_31 (by decide) ?_
      refine z_pS (As := [.int z, .int 1, .int 9]) (rest := []) S hE hW (cX4_isIn_ok l z 1 9) (va_cwS 3 hts gX4_set_X4_isIn rfl rfl rfl (by decide +kernel) ⟨Nat.le_of_ble_eq_true rfl, Nat.le_of_ble_eq_true rfl⟩) rfl hl.1 rfl (Nat.le_of_ble_eq_true rfl) dX4_set_33 ⟨Nat.le_of_ble_eq_true rfl, Nat.le_of_ble_eq_true rfl⟩ (fun H locs hW => ?_)
      refine lv_if_ne (tgt := 45) hx hb dX4_set_36 (by decide) (fun c36 => ?_) (fun c36 => ?_)
      · have c36 := zb_t c36
        obtain ⟨j, hj, rfl⟩ := zIn_ex 4 rfl (by decide) c9
        refine lv_bipush (v := 10) hx hb dX4_set_45 (by decide) ?_
        refine lv_aload_n hx hb dX4_set_47 rfl (lv_at hl 0 rfl) ?_
        refine z_get (C := RX4) (T := TX4) (N := 9) (ci := 4) S hE hW hi4 rfl (Nat.lt_of_lt_of_le (by decide) hn) cM_0 3 (by decide) rfl f9 (v := .ref (ad 29)) rfl dX4_set_48 ?_
        refine lv_iload_n hx hb dX4_set_51 rfl (lv_at hl 1 rfl) ?_
        refine z_ald S hE hW (Nat.lt_of_lt_of_le (by decide) hn) cM_1 j rfl (by omega) (by decide) (v := al 1 j) (r_st) dX4_set_52 ?_
        refine lv_imul hx hb dX4_set_53 ?_
        refine lv_aload_n hx hb dX4_set_54 rfl (lv_at hl 0 rfl) ?_
        refine z_get (C := RX4) (T := TX4) (N := 9) (ci := 4) S hE hW hi4 rfl (Nat.lt_of_lt_of_le (by decide) hn) cM_0 4 (by decide) rfl f13 (v := .ref (ad 30)) rfl dX4_set_55 ?_
        refine lv_iload_n hx hb dX4_set_58 rfl (lv_at hl 1 rfl) ?_
        refine z_ald S hE hW (Nat.lt_of_lt_of_le (by decide) hn) cM_2 j rfl (by omega) (by decide) (v := al 2 j) (r_sw) dX4_set_59 ?_
        refine lv_iadd hx hb dX4_set_60 ?_
        refine lv_istore (lv' := [(4, .int ((10 * al 1 j) + al 2 j)), (0, .ref (ad 28)), (1, .int (nI j)), (2, .int y), (3, .int z)]) hx hb dX4_set_61 hl (by decide) rfl (fun ls hl => ?_)
        refine lv_aload_n hx hb dX4_set_63 rfl (lv_at hl 1 rfl) ?_
        refine z_get (C := RX4) (T := TX4) (N := 9) (ci := 4) S hE hW hi4 rfl (Nat.lt_of_lt_of_le (by decide) hn) cM_0 3 (by decide) rfl f9 (v := .ref (ad 29)) rfl dX4_set_64 ?_
        refine lv_iload_n hx hb dX4_set_67 rfl (lv_at hl 2 rfl) ?_
        refine lv_iload_n hx hb dX4_set_68 rfl (lv_at hl 3 rfl) ?_
        refine z_ast (ce' := cM cy ad (zup (enc al 0) 1 j y) ex) S hE hW (Nat.lt_of_lt_of_le (by decide) hn) cM_1 j rfl (by omega) (by decide) pM_1 (fun j h => cM_o h) dX4_set_69 (fun H locs hW => ?_)
        rw [e_st] at hW
        refine lv_aload_n hx hb dX4_set_70 rfl (lv_at hl 1 rfl) ?_
        refine z_get (C := RX4) (T := TX4) (N := 9) (ci := 4) S hE hW hi4 rfl (Nat.lt_of_lt_of_le (by decide) hn) cM_0 4 (by decide) rfl f13 (v := .ref (ad 30)) rfl dX4_set_71 ?_
        refine lv_iload_n hx hb dX4_set_74 rfl (lv_at hl 2 rfl) ?_
        refine lv_iload_n hx hb dX4_set_75 rfl (lv_at hl 4 rfl) ?_
        refine z_ast (ce' := cM cy ad (zup (enc (zup al 1 j y) 0) 2 j z) ex) S hE hW (Nat.lt_of_lt_of_le (by decide) hn) cM_2 j rfl (by omega) (by decide) pM_2 (fun j h => cM_o h) dX4_set_76 (fun H locs hW => ?_)
        rw [e_sw] at hW
        refine lv_iload hx hb dX4_set_77 (lv_at hl 0 rfl) ?_
        have hk9 : k_set al (nI j) y z = 0 := by unfold k_set; rw [if_neg (fun h => h c9), if_neg (fun h => h c26), if_neg (fun h => h c36)]
        exact ze_i S hW hr hlk () (congrArg (fun z => cM cy ad z ex) (by rw [hk9, if_pos rfl]; exact congrArg (fun z => enc z 0) (by unfold u_set; rw [ix_nI (show j < 2 ^ 31 by omega)]))) (by rw [hk9, if_pos rfl] <;> exact (by unfold v_set; rw [ix_nI (show j < 2 ^ 31 by omega)])) (Nat.le_of_ble_eq_true rfl) (Nat.le_of_ble_eq_true rfl) dX4_set_79
      · have c36 := zb_f c36
        refine lv_aload_n hx hb dX4_set_39 rfl (lv_at hl 0 rfl) ?_
        refine lv_iconst (v := 2) hx hb dX4_set_40 (by decide) ?_
        refine z_cVi (As := [.int 2]) (rest := []) (k := 28) S hE hW (cX4_fail_ok l D n ad cy sa H.size hn al 0 ex 2) (cwV 1 hts gX4_set_X4_fail rfl rfl rfl (by decide +kernel) ⟨Nat.le_of_ble_eq_true rfl, Nat.le_of_ble_eq_true rfl⟩) (Nat.lt_of_lt_of_le (by decide) hn) cM_0 rfl rfl rfl hl.1 rfl (Nat.le_of_ble_eq_true rfl) dX4_set_41 ⟨Nat.le_of_ble_eq_true rfl, Nat.le_of_ble_eq_true rfl⟩ (fun r _ H locs hp hW => ?_)
        subst hp
        have hk9 : k_set al x y z = 2 := by unfold k_set; rw [if_neg (fun h => h c9), if_neg (fun h => h c26), if_pos c36]
        exact ze_i S hW hr hlk () (congrArg (fun z => cM cy ad z ex) (by rw [hk9, if_neg (by decide)] <;> rfl)) (by rw [hk9, if_neg (by decide)]) (Nat.le_of_ble_eq_true rfl) (Nat.le_of_ble_eq_true rfl) dX4_set_44
  · have c9 := zb_f c9
    refine lv_aload_n hx hb dX4_set_12 rfl (lv_at hl 0 rfl) ?_
    refine lv_iconst (v := 1) hx hb dX4_set_13 (by decide) ?_
    refine z_cVi (As := [.int 1]) (rest := []) (k := 28) S hE hW (cX4_fail_ok l D n ad cy sa H.size hn al 0 ex 1) (cwV 1 hts gX4_set_X4_fail rfl rfl rfl (by decide +kernel) ⟨Nat.le_of_ble_eq_true rfl, Nat.le_of_ble_eq_true rfl⟩) (Nat.lt_of_lt_of_le (by decide) hn) cM_0 rfl rfl rfl hl.1 rfl (Nat.le_of_ble_eq_true rfl) dX4_set_14 ⟨Nat.le_of_ble_eq_true rfl, Nat.le_of_ble_eq_true rfl⟩ (fun r _ H locs hp hW => ?_)
    subst hp
    have hk9 : k_set al x y z = 1 := by unfold k_set; rw [if_pos c9]
    exact ze_i S hW hr hlk () (congrArg (fun z => cM cy ad z ex) (by rw [hk9, if_neg (by decide)] <;> rfl)) (by rw [hk9, if_neg (by decide)]) (Nat.le_of_ble_eq_true rfl) (Nat.le_of_ble_eq_true rfl) dX4_set_17
set_option maxHeartbeats 4000000 in
set_option maxRecDepth 100000 in
theorem cX4_setGust_ok (l : Launch) (D : va_G) (n : Nat) (ad cy sa : Nat → Nat) (sz : Nat) (hn : 35 ≤ n) (al : Nat → Nat → Int32) (th : Int32) (ex : Nat → va_E) (x : Int32) (y : Int32)  : Met l yX4_setGust wsX4_setGust ({ frames := 1, cells := 0, slots := 0, locals := 22 }) (PW D n ad cy sa sz (cM cy ad (enc al th) ex) [.ref (ad 28), .int x, .int y]) (QDi D n ad sz (if k_setGust al x y = 0 then v_setGust al x y else 0) (cM cy ad (enc (if k_setGust al x y = 0 then u_setGust al x y else al) (nI (k_setGust al x y))) ex)) 0 0 (Acc n ad sz) := by
  refine zs_met (cc := cX4_setGust) (maxL := 4) (ret := (some .int)) (own := RX4) (by decide) rfl rfl (Nat.le_of_ble_eq_true rfl) ?_
  intro p e s m args below meth c ls S hE hW hr hlk hsz hav hl
  subst hsz
  have hx := S.1
  have hb := S.2.1
  have hown := S.2.2.2.1
  have hts := S.2.2.2.2
  have hl : lv_has ls 4 [(0, .ref (ad 28)), (1, .int x), (2, .int y)] := hl
  have f28 := hts (.fieldLink RX4 28 "PumiceSledgeModel" "thrown" "I") (by decide +kernel)
  have hi4 : ∀ w ∈ wsX40, w ∈ wsX4_setGust := by decide +kernel
  have f16 := hts (.fieldLink RX4 16 "PumiceSledgeModel" "gusts" "[I") (by decide +kernel)
  refine lv_aload_n hx hb dX4_setGust_0 rfl (lv_at hl 0 rfl) ?_
  refine lv_iconst (v := 0) hx hb dX4_setGust_1 (by decide) ?_
  refine z_put (ce' := cM cy ad (zup (enc al th) 0 0 0) ex) (C := RX4) (T := TX4) (N := 9) (ci := 4) S hE hW hi4 tyX4 tyX4_ok nmX4 rfl (Nat.lt_of_lt_of_le (by decide) hn) cM_0 0 (by decide) rfl f28 rfl rfl (Nat.le_of_ble_eq_true rfl) (pM_0 (by decide)) (fun j h => cM_o h) dX4_setGust_2 (fun H locs hW => ?_)
  rw [e_th] at hW
  refine lv_iload_n hx hb dX4_setGust_5 rfl (lv_at hl 1 rfl) ?_
  refine lv_iconst (v := 0) hx hb dX4_setGust_6 (by decide) ?_
  refine lv_bipush (v := 7) hx hb dX4_setGust_7 (by decide) ?_
  refine z_pS (As := [.int x, .int 0, .int 7]) (rest := []) S hE hW (cX4_isIn_ok l x 0 7) (va_cwS 3 hts gX4_setGust_X4_isIn rfl rfl rfl (by decide +kernel) ⟨Nat.le_of_ble_eq_true rfl, Nat.le_of_ble_eq_true rfl⟩) rfl hl.1 rfl (Nat.le_of_ble_eq_true rfl) dX4_setGust_9 ⟨Nat.le_of_ble_eq_true rfl, Nat.le_of_ble_eq_true rfl⟩ (fun H locs hW => ?_)
  refine lv_if_ne (tgt := 21) hx hb dX4_setGust_12 (by decide) (fun c12 => ?_) (fun c12 => ?_)
  · have c12 := zb_t c12
    refine lv_iload_n hx hb dX4_setGust_21 rfl (lv_at hl 2 rfl) ?_
    refine lv_iconst (v := 0) hx hb dX4_setGust_22 (by decide) ?_
    refine lv_bipush (v := 9) hx hb dX4_setGust_23 (by decide) ?_
    refine z_pS (As := [.int y, .int 0, .int 9]) (rest := []) S hE hW (cX4_isIn_ok l y 0 9) (va_cwS 3 hts gX4_setGust_X4_isIn rfl rfl rfl (by decide +kernel) ⟨Nat.le_of_ble_eq_true rfl, Nat.le_of_ble_eq_true rfl⟩) rfl hl.1 rfl (Nat.le_of_ble_eq_true rfl) dX4_setGust_25 ⟨Nat.le_of_ble_eq_true rfl, Nat.le_of_ble_eq_true rfl⟩ (fun H locs hW => ?_)
    refine lv_if_ne (tgt := 37) hx hb dX4_setGust_28 (by decide) (fun c28 => ?_) (fun c28 => ?_)
    · have c28 := zb_t c28
      obtain ⟨j, hj, rfl⟩ := zIn_ex 7 rfl (by decide) c12
      refine lv_aload_n hx hb dX4_setGust_37 rfl (lv_at hl 0 rfl) ?_
      refine z_get (C := RX4) (T := TX4) (N := 9) (ci := 4) S hE hW hi4 rfl (Nat.lt_of_lt_of_le (by decide) hn) cM_0 5 (by decide) rfl f16 (v := .ref (ad 31)) rfl dX4_setGust_38 ?_
      refine lv_iload_n hx hb dX4_setGust_41 rfl (lv_at hl 1 rfl) ?_
      refine z_ald S hE hW (Nat.lt_of_lt_of_le (by decide) hn) cM_3 j rfl (by omega) (by decide) (v := al 3 j) (r_gu) dX4_setGust_42 ?_
      refine lv_istore_n (lv' := [(3, .int (al 3 j)), (0, .ref (ad 28)), (1, .int (nI j)), (2, .int y)]) hx hb dX4_setGust_43 rfl hl (by decide) rfl (fun ls hl => ?_)
      refine lv_aload_n hx hb dX4_setGust_44 rfl (lv_at hl 1 rfl) ?_
      refine z_get (C := RX4) (T := TX4) (N := 9) (ci := 4) S hE hW hi4 rfl (Nat.lt_of_lt_of_le (by decide) hn) cM_0 5 (by decide) rfl f16 (v := .ref (ad 31)) rfl dX4_setGust_45 ?_
      refine lv_iload_n hx hb dX4_setGust_48 rfl (lv_at hl 2 rfl) ?_
      refine lv_iload_n hx hb dX4_setGust_49 rfl (lv_at hl 3 rfl) ?_
      refine z_ast (ce' := cM cy ad (zup (enc al 0) 3 j y) ex) S hE hW (Nat.lt_of_lt_of_le (by decide) hn) cM_3 j rfl (by omega) (by decide) pM_3 (fun j h => cM_o h) dX4_setGust_50 (fun H locs hW => ?_)
      rw [e_gu] at hW
      refine lv_iload_n hx hb dX4_setGust_51 rfl (lv_at hl 0 rfl) ?_
      have hk9 : k_setGust al (nI j) y = 0 := by unfold k_setGust; rw [if_neg (fun h => h c12), if_neg (fun h => h c28)]
      exact ze_i S hW hr hlk () (congrArg (fun z => cM cy ad z ex) (by rw [hk9, if_pos rfl]; exact congrArg (fun z => enc z 0) (by unfold u_setGust; rw [ix_nI (show j < 2 ^ 31 by omega)]))) (by rw [hk9, if_pos rfl] <;> exact (by unfold v_setGust; rw [ix_nI (show j < 2 ^ 31 by omega)])) (Nat.le_of_ble_eq_true rfl) (Nat.le_of_ble_eq_true rfl) dX4_setGust_52
    · have c28 := zb_f c28
      refine lv_aload_n hx hb dX4_setGust_31 rfl (lv_at hl 0 rfl) ?_
      refine lv_iconst (v := 2) hx hb dX4_setGust_32 (by decide) ?_
      refine z_cVi (As := [.int 2]) (rest := []) (k := 28) S hE hW (cX4_fail_ok l D n ad cy sa H.size hn al 0 ex 2) (cwV 1 hts gX4_setGust_X4_fail rfl rfl rfl (by decide +kernel) ⟨Nat.le_of_ble_eq_true rfl, Nat.le_of_ble_eq_true rfl⟩) (Nat.lt_of_lt_of_le (by decide) hn) cM_0 rfl rfl rfl hl.1 rfl (Nat.le_of_ble_eq_true rfl) dX4_setGust_33 ⟨Nat.le_of_ble_eq_true rfl, Nat.le_of_ble_eq_true rfl⟩ (fun r _ H locs hp hW => ?_)
      subst hp
      have hk9 : k_setGust al x y = 2 := by unfold k_setGust; rw [if_neg (fun h => h c12), if_pos c28]
      exact ze_i S hW hr hlk () (congrArg (fun z => cM cy ad z ex) (by rw [hk9, if_neg (by decide)] <;> rfl)) (by rw [hk9, if_neg (by decide)]) (Nat.le_of_ble_eq_true rfl) (Nat.le_of_ble_eq_true rfl) dX4_setGust_36
  · have c12 := zb_f c12
    refine lv_aload_n hx hb dX4_setGust_15 rfl (lv_at hl 0 rfl) ?_
    refine lv_iconst (v := 1) hx hb dX4_setGust_16 (by decide) ?_
    refine z_cVi (As := [.int 1]) (rest := []) (k := 28) S hE hW (cX4_fail_ok l D n ad cy sa H.size hn al 0 ex 1) (cwV 1 hts gX4_setGust_X4_fail rfl rfl rfl (by decide +kernel) ⟨Nat.le_of_ble_eq_true rfl, Nat.le_of_ble_eq_true rfl⟩) (Nat.lt_of_lt_of_le (by decide) hn) cM_0 rfl rfl rfl hl.1 rfl (Nat.le_of_ble_eq_true rfl) dX4_setGust_17 ⟨Nat.le_of_ble_eq_true rfl, Nat.le_of_ble_eq_true rfl⟩ (fun r _ H locs hp hW => ?_)
    subst hp
    have hk9 : k_setGust al x y = 1 := by unfold k_setGust; rw [if_pos c12]
    exact ze_i S hW hr hlk () (congrArg (fun z => cM cy ad z ex) (by rw [hk9, if_neg (by decide)] <;> rfl)) (by rw [hk9, if_neg (by decide)]) (Nat.le_of_ble_eq_true rfl) (Nat.le_of_ble_eq_true rfl) dX4_setGust_20
set_option maxHeartbeats 4000000 in
set_option maxRecDepth 100000 in
theorem cX4_build_ok (l : Launch) (D : va_G) (n : Nat) (ad cy sa : Nat → Nat) (sz : Nat) (hn : 35 ≤ n) (al : Nat → Nat → Int32) (th : Int32) (ex : Nat → va_E) (x : Int32) (N : Nat) (hN : al 0 4 = nI N) (hN6 : N ≤ 6) (h20 : N < 6 → al (10 + N) 3 = 20) : Met l yX4_build wsX4_build ({ frames := 1, cells := 0, slots := 0, locals := 23 }) (PW D n ad cy sa sz (cM cy ad (enc al th) ex) [.ref (ad 28), .int x]) (QDi D n ad sz (if k_build al x = 0 then v_build al x else 0) (cM cy ad (enc (if k_build al x = 0 then u_build al x else al) (nI (k_build al x))) ex)) 0 0 (Acc n ad sz) := by
  refine zs_met (cc := cX4_build) (maxL := 2) (ret := (some .int)) (own := RX4) (by decide) rfl rfl (Nat.le_of_ble_eq_true rfl) ?_
  intro p e s m args below meth c ls S hE hW hr hlk hsz hav hl
  subst hsz
  have hx := S.1
  have hb := S.2.1
  have hown := S.2.2.2.1
  have hts := S.2.2.2.2
  have hl : lv_has ls 2 [(0, .ref (ad 28)), (1, .int x)] := hl
  have f28 := hts (.fieldLink RX4 28 "PumiceSledgeModel" "thrown" "I") (by decide +kernel)
  have hi4 : ∀ w ∈ wsX40, w ∈ wsX4_build := by decide +kernel
  have f32 := hts (.fieldLink RX4 32 "PumiceSledgeModel" "sledges" "I") (by decide +kernel)
  refine lv_aload_n hx hb dX4_build_0 rfl (lv_at hl 0 rfl) ?_
  refine lv_iconst (v := 0) hx hb dX4_build_1 (by decide) ?_
  refine z_put (ce' := cM cy ad (zup (enc al th) 0 0 0) ex) (C := RX4) (T := TX4) (N := 9) (ci := 4) S hE hW hi4 tyX4 tyX4_ok nmX4 rfl (Nat.lt_of_lt_of_le (by decide) hn) cM_0 0 (by decide) rfl f28 rfl rfl (Nat.le_of_ble_eq_true rfl) (pM_0 (by decide)) (fun j h => cM_o h) dX4_build_2 (fun H locs hW => ?_)
  rw [e_th] at hW
  refine lv_iload_n hx hb dX4_build_5 rfl (lv_at hl 1 rfl) ?_
  refine lv_iconst (v := 1) hx hb dX4_build_6 (by decide) ?_
  refine lv_bipush (v := 8) hx hb dX4_build_7 (by decide) ?_
  refine z_pS (As := [.int x, .int 1, .int 8]) (rest := []) S hE hW (cX4_isIn_ok l x 1 8) (va_cwS 3 hts gX4_build_X4_isIn rfl rfl rfl (by decide +kernel) ⟨Nat.le_of_ble_eq_true rfl, Nat.le_of_ble_eq_true rfl⟩) rfl hl.1 rfl (Nat.le_of_ble_eq_true rfl) dX4_build_9 ⟨Nat.le_of_ble_eq_true rfl, Nat.le_of_ble_eq_true rfl⟩ (fun H locs hW => ?_)
  refine lv_if_ne (tgt := 21) hx hb dX4_build_12 (by decide) (fun c12 => ?_) (fun c12 => ?_)
  · have c12 := zb_t c12
    refine lv_aload_n hx hb dX4_build_21 rfl (lv_at hl 0 rfl) ?_
    refine z_get (C := RX4) (T := TX4) (N := 9) (ci := 4) S hE hW hi4 rfl (Nat.lt_of_lt_of_le (by decide) hn) cM_0 1 (by decide) rfl f32 (v := .int (nI N)) (congrArg (fun z => some (Value.int z)) ((r_n).trans (hN))) dX4_build_22 ?_
    refine lv_bipush (v := 6) hx hb dX4_build_25 (by decide) ?_
    refine lv_icmp_ne (tgt := 36) hx hb dX4_build_27 (by decide) (fun c27 => ?_) (fun c27 => ?_)
    · have hlt : N < 6 := z_ne hN6 c27
      have hlt2 : al 0 4 < 6 := by rw [hN]; exact nI_lt hlt (by decide)
      have h20 := h20 hlt
      refine lv_aload_n hx hb dX4_build_36 rfl (lv_at hl 0 rfl) ?_
      refine lv_aload_n hx hb dX4_build_37 rfl (lv_at hl 0 rfl) ?_
      refine z_get (C := RX4) (T := TX4) (N := 9) (ci := 4) S hE hW hi4 rfl (Nat.lt_of_lt_of_le (by decide) hn) cM_0 1 (by decide) rfl f32 (v := .int (nI N)) (congrArg (fun z => some (Value.int z)) ((r_n).trans (hN))) dX4_build_38 ?_
      refine lv_iconst (v := 0) hx hb dX4_build_41 (by decide) ?_
      refine lv_iload_n hx hb dX4_build_42 rfl (lv_at hl 1 rfl) ?_
      refine z_cVv (As := [.int (nI N), .int 0, .int x]) (rest := []) (k := 28) S hE hW (cX4_put_ok l D n ad cy sa H.size hn (enc al 0) ex N (by omega) 0 (by omega) x) (cwV 3 hts gX4_build_X4_put rfl rfl rfl (by decide +kernel) ⟨Nat.le_of_ble_eq_true rfl, Nat.le_of_ble_eq_true rfl⟩) (Nat.lt_of_lt_of_le (by decide) hn) cM_0 rfl rfl rfl hl.1 rfl (Nat.le_of_ble_eq_true rfl) dX4_build_43 ⟨Nat.le_of_ble_eq_true rfl, Nat.le_of_ble_eq_true rfl⟩ (fun _ H locs _ hW => ?_)
      rw [e_s0 (by omega)] at hW
      refine lv_aload_n hx hb dX4_build_46 rfl (lv_at hl 0 rfl) ?_
      refine lv_aload_n hx hb dX4_build_47 rfl (lv_at hl 0 rfl) ?_
      refine z_get (C := RX4) (T := TX4) (N := 9) (ci := 4) S hE hW hi4 rfl (Nat.lt_of_lt_of_le (by decide) hn) cM_0 1 (by decide) rfl f32 (v := .int (nI N)) (congrArg (fun z => some (Value.int z)) ((r_n).trans ((congrFun (zup_o (by omega)) 4).trans hN))) dX4_build_48 ?_
      refine lv_iconst (v := 2) hx hb dX4_build_51 (by decide) ?_
      refine lv_bipush (v := 20) hx hb dX4_build_52 (by decide) ?_
      refine z_cVv (As := [.int (nI N), .int 2, .int 20]) (rest := []) (k := 28) S hE hW (cX4_put_ok l D n ad cy sa H.size hn (enc (zup al (10 + N) 0 x) 0) ex N (by omega) 2 (by omega) 20) (cwV 3 hts gX4_build_X4_put rfl rfl rfl (by decide +kernel) ⟨Nat.le_of_ble_eq_true rfl, Nat.le_of_ble_eq_true rfl⟩) (Nat.lt_of_lt_of_le (by decide) hn) cM_0 rfl rfl rfl hl.1 rfl (Nat.le_of_ble_eq_true rfl) dX4_build_54 ⟨Nat.le_of_ble_eq_true rfl, Nat.le_of_ble_eq_true rfl⟩ (fun _ H locs _ hW => ?_)
      refine lv_aload_n hx hb dX4_build_57 rfl (lv_at hl 0 rfl) ?_
      refine lv_dup hx hb dX4_build_58 rfl ?_
      refine z_get (C := RX4) (T := TX4) (N := 9) (ci := 4) S hE hW hi4 rfl (Nat.lt_of_lt_of_le (by decide) hn) cM_0 1 (by decide) rfl f32 (v := .int (nI N)) (congrArg (fun z => some (Value.int z)) (((congrFun (zup_o (by decide)) _).trans (r_n)).trans ((congrFun (zup_o (by omega)) 4).trans hN))) dX4_build_59 ?_
      refine lv_iconst (v := 1) hx hb dX4_build_62 (by decide) ?_
      refine lv_iadd hx hb dX4_build_63 ?_
      refine z_put (ce' := cM cy ad (zup (zup (enc (zup al (10 + N) 0 x) 0) 4 (12 * N + 2) 20) 0 1 (nI N + 1)) ex) (C := RX4) (T := TX4) (N := 9) (ci := 4) S hE hW hi4 tyX4 tyX4_ok nmX4 rfl (Nat.lt_of_lt_of_le (by decide) hn) cM_0 1 (by decide) rfl f32 rfl rfl (Nat.le_of_ble_eq_true rfl) (pM_0 (by decide)) (fun j h => cM_o h) dX4_build_64 (fun H locs hW => ?_)
      rw [e_bu ((congrFun (zup_o (by omega)) 4).trans hN) (by omega) (((congrFun zup_k 3).trans (up_n (by decide))).trans h20)] at hW
      refine lv_aload_n hx hb dX4_build_67 rfl (lv_at hl 0 rfl) ?_
      refine z_get (C := RX4) (T := TX4) (N := 9) (ci := 4) S hE hW hi4 rfl (Nat.lt_of_lt_of_le (by decide) hn) cM_0 1 (by decide) rfl f32 (v := .int (nI N + 1)) (congrArg (fun z => some (Value.int z)) ((r_n).trans ((congrFun zup_k 4).trans up_s))) dX4_build_68 ?_
      refine lv_iconst (v := 1) hx hb dX4_build_71 (by decide) ?_
      refine lv_isub hx hb dX4_build_72 ?_
      have hk9 : k_build al x = 0 := by unfold k_build; rw [if_neg (fun h => h c12), if_neg (fun h => h hlt2)]
      exact ze_i S hW hr hlk () (congrArg (fun z => cM cy ad z ex) (by rw [hk9, if_pos rfl]; exact congrArg (fun z => enc z 0) (by unfold u_build; rw [hN, ix_nI (show N < 2 ^ 31 by omega)]))) (by rw [hk9, if_pos rfl] <;> exact (by unfold v_build; rw [hN])) (Nat.le_of_ble_eq_true rfl) (Nat.le_of_ble_eq_true rfl) dX4_build_73
    · have hlt2 : ¬ al 0 4 < 6 := by rw [hN, c27]; decide
      refine lv_aload_n hx hb dX4_build_30 rfl (lv_at hl 0 rfl) ?_
      refine lv_iconst (v := 2) hx hb dX4_build_31 (by decide) ?_
      refine z_cVi (As := [.int 2]) (rest := []) (k := 28) S hE hW (cX4_fail_ok l D n ad cy sa H.size hn al 0 ex 2) (cwV 1 hts gX4_build_X4_fail rfl rfl rfl (by decide +kernel) ⟨Nat.le_of_ble_eq_true rfl, Nat.le_of_ble_eq_true rfl⟩) (Nat.lt_of_lt_of_le (by decide) hn) cM_0 rfl rfl rfl hl.1 rfl (Nat.le_of_ble_eq_true rfl) dX4_build_32 ⟨Nat.le_of_ble_eq_true rfl, Nat.le_of_ble_eq_true rfl⟩ (fun r _ H locs hp hW => ?_)
      subst hp
      have hk9 : k_build al x = 2 := by unfold k_build; rw [if_neg (fun h => h c12), if_pos hlt2]
      exact ze_i S hW hr hlk () (congrArg (fun z => cM cy ad z ex) (by rw [hk9, if_neg (by decide)] <;> rfl)) (by rw [hk9, if_neg (by decide)]) (Nat.le_of_ble_eq_true rfl) (Nat.le_of_ble_eq_true rfl) dX4_build_35
  · have c12 := zb_f c12
    refine lv_aload_n hx hb dX4_build_15 rfl (lv_at hl 0 rfl) ?_
    refine lv_iconst (v := 1) hx hb dX4_build_16 (by decide) ?_
    refine z_cVi (As := [.int 1]) (rest := []) (k := 28) S hE hW (cX4_fail_ok l D n ad cy sa H.size hn al 0 ex 1) (cwV 1 hts gX4_build_X4_fail rfl rfl rfl (by decide +kernel) ⟨Nat.le_of_ble_eq_true rfl, Nat.le_of_ble_eq_true rfl⟩) (Nat.lt_of_lt_of_le (by decide) hn) cM_0 rfl rfl rfl hl.1 rfl (Nat.le_of_ble_eq_true rfl) dX4_build_17 ⟨Nat.le_of_ble_eq_true rfl, Nat.le_of_ble_eq_true rfl⟩ (fun r _ H locs hp hW => ?_)
    subst hp
    have hk9 : k_build al x = 1 := by unfold k_build; rw [if_pos c12]
    exact ze_i S hW hr hlk () (congrArg (fun z => cM cy ad z ex) (by rw [hk9, if_neg (by decide)] <;> rfl)) (by rw [hk9, if_neg (by decide)]) (Nat.le_of_ble_eq_true rfl) (Nat.le_of_ble_eq_true rfl) dX4_build_20
set_option maxHeartbeats 4000000 in
set_option maxRecDepth 100000 in
theorem cX4_launch_ok (l : Launch) (D : va_G) (n : Nat) (ad cy sa : Nat → Nat) (sz : Nat) (hn : 35 ≤ n) (al : Nat → Nat → Int32) (th : Int32) (ex : Nat → va_E) (x : Int32) (B : Nat) (hB : al 0 6 = nI B) (hB4 : B ≤ 4) : Met l yX4_launch wsX4_launch ({ frames := 1, cells := 0, slots := 0, locals := 22 }) (PW D n ad cy sa sz (cM cy ad (enc al th) ex) [.ref (ad 28), .int x]) (QDi D n ad sz (if k_launch al x = 0 then v_launch al x else 0) (cM cy ad (enc (if k_launch al x = 0 then u_launch al x else al) (nI (k_launch al x))) ex)) 0 0 (Acc n ad sz) := by
  refine zs_met (cc := cX4_launch) (maxL := 2) (ret := (some .int)) (own := RX4) (by decide) rfl rfl (Nat.le_of_ble_eq_true rfl) ?_
  intro p e s m args below meth c ls S hE hW hr hlk hsz hav hl
  subst hsz
  have hx := S.1
  have hb := S.2.1
  have hown := S.2.2.2.1
  have hts := S.2.2.2.2
  have hl : lv_has ls 2 [(0, .ref (ad 28)), (1, .int x)] := hl
  have f28 := hts (.fieldLink RX4 28 "PumiceSledgeModel" "thrown" "I") (by decide +kernel)
  have hi4 : ∀ w ∈ wsX40, w ∈ wsX4_launch := by decide +kernel
  have f39 := hts (.fieldLink RX4 39 "PumiceSledgeModel" "boats" "I") (by decide +kernel)
  have f22 := hts (.fieldLink RX4 22 "PumiceSledgeModel" "fleet" "[I") (by decide +kernel)
  refine lv_aload_n hx hb dX4_launch_0 rfl (lv_at hl 0 rfl) ?_
  refine lv_iconst (v := 0) hx hb dX4_launch_1 (by decide) ?_
  refine z_put (ce' := cM cy ad (zup (enc al th) 0 0 0) ex) (C := RX4) (T := TX4) (N := 9) (ci := 4) S hE hW hi4 tyX4 tyX4_ok nmX4 rfl (Nat.lt_of_lt_of_le (by decide) hn) cM_0 0 (by decide) rfl f28 rfl rfl (Nat.le_of_ble_eq_true rfl) (pM_0 (by decide)) (fun j h => cM_o h) dX4_launch_2 (fun H locs hW => ?_)
  rw [e_th] at hW
  refine lv_iload_n hx hb dX4_launch_5 rfl (lv_at hl 1 rfl) ?_
  refine lv_bipush (v := 100) hx hb dX4_launch_6 (by decide) ?_
  refine lv_sipush (v := 900) hx hb dX4_launch_8 (by decide) ?_
  refine z_pS (As := [.int x, .int 100, .int 900]) (rest := []) S hE hW (cX4_isIn_ok l x 100 900) (va_cwS 3 hts gX4_launch_X4_isIn rfl rfl rfl (by decide +kernel) ⟨Nat.le_of_ble_eq_true rfl, Nat.le_of_ble_eq_true rfl⟩) rfl hl.1 rfl (Nat.le_of_ble_eq_true rfl) dX4_launch_11 ⟨Nat.le_of_ble_eq_true rfl, Nat.le_of_ble_eq_true rfl⟩ (fun H locs hW => ?_)
  refine lv_if_ne (tgt := 23) hx hb dX4_launch_14 (by decide) (fun c14 => ?_) (fun c14 => ?_)
  · have c14 := zb_t c14
    refine lv_aload_n hx hb dX4_launch_23 rfl (lv_at hl 0 rfl) ?_
    refine z_get (C := RX4) (T := TX4) (N := 9) (ci := 4) S hE hW hi4 rfl (Nat.lt_of_lt_of_le (by decide) hn) cM_0 2 (by decide) rfl f39 (v := .int (nI B)) (congrArg (fun z => some (Value.int z)) ((r_b).trans (hB))) dX4_launch_24 ?_
    refine lv_iconst (v := 4) hx hb dX4_launch_27 (by decide) ?_
    refine lv_icmp_ne (tgt := 37) hx hb dX4_launch_28 (by decide) (fun c28 => ?_) (fun c28 => ?_)
    · have hlt : B < 4 := z_ne hB4 c28
      have hlt2 : al 0 6 < 4 := by rw [hB]; exact nI_lt hlt (by decide)
      refine lv_aload_n hx hb dX4_launch_37 rfl (lv_at hl 0 rfl) ?_
      refine z_get (C := RX4) (T := TX4) (N := 9) (ci := 4) S hE hW hi4 rfl (Nat.lt_of_lt_of_le (by decide) hn) cM_0 7 (by decide) rfl f22 (v := .ref (ad 33)) rfl dX4_launch_38 ?_
      refine lv_iconst (v := 3) hx hb dX4_launch_41 (by decide) ?_
      refine lv_aload_n hx hb dX4_launch_42 rfl (lv_at hl 0 rfl) ?_
      refine z_get (C := RX4) (T := TX4) (N := 9) (ci := 4) S hE hW hi4 rfl (Nat.lt_of_lt_of_le (by decide) hn) cM_0 2 (by decide) rfl f39 (v := .int (nI B)) (congrArg (fun z => some (Value.int z)) ((r_b).trans (hB))) dX4_launch_43 ?_
      refine lv_imul hx hb dX4_launch_46 ?_
      refine lv_iconst (v := 0) hx hb dX4_launch_47 (by decide) ?_
      refine lv_iadd hx hb dX4_launch_48 ?_
      refine lv_iload_n hx hb dX4_launch_49 rfl (lv_at hl 1 rfl) ?_
      refine z_ast (ce' := cM cy ad (zup (enc al 0) 5 (3 * B + 0) x) ex) S hE hW (Nat.lt_of_lt_of_le (by decide) hn) cM_5 (3 * B + 0) (z_mul3' B 0) (by omega) (by decide) pM_5 (fun j h => cM_o h) dX4_launch_50 (fun H locs hW => ?_)
      rw [e_f (by omega) (by decide)] at hW
      refine lv_aload_n hx hb dX4_launch_51 rfl (lv_at hl 0 rfl) ?_
      refine lv_dup hx hb dX4_launch_52 rfl ?_
      refine z_get (C := RX4) (T := TX4) (N := 9) (ci := 4) S hE hW hi4 rfl (Nat.lt_of_lt_of_le (by decide) hn) cM_0 2 (by decide) rfl f39 (v := .int (nI B)) (congrArg (fun z => some (Value.int z)) ((r_b).trans ((congrFun (zup_o (by omega)) 6).trans hB))) dX4_launch_53 ?_
      refine lv_iconst (v := 1) hx hb dX4_launch_56 (by decide) ?_
      refine lv_iadd hx hb dX4_launch_57 ?_
      refine z_put (ce' := cM cy ad (zup (enc (zup al (24 + B) 0 x) 0) 0 2 (nI B + 1)) ex) (C := RX4) (T := TX4) (N := 9) (ci := 4) S hE hW hi4 tyX4 tyX4_ok nmX4 rfl (Nat.lt_of_lt_of_le (by decide) hn) cM_0 2 (by decide) rfl f39 rfl rfl (Nat.le_of_ble_eq_true rfl) (pM_0 (by decide)) (fun j h => cM_o h) dX4_launch_58 (fun H locs hW => ?_)
      rw [e_b] at hW
      refine lv_aload_n hx hb dX4_launch_61 rfl (lv_at hl 0 rfl) ?_
      refine z_get (C := RX4) (T := TX4) (N := 9) (ci := 4) S hE hW hi4 rfl (Nat.lt_of_lt_of_le (by decide) hn) cM_0 2 (by decide) rfl f39 (v := .int (nI B + 1)) (congrArg (fun z => some (Value.int z)) ((r_b).trans ((congrFun zup_k 6).trans up_s))) dX4_launch_62 ?_
      refine lv_iconst (v := 1) hx hb dX4_launch_65 (by decide) ?_
      refine lv_isub hx hb dX4_launch_66 ?_
      have hk9 : k_launch al x = 0 := by unfold k_launch; rw [if_neg (fun h => h c14), if_neg (fun h => h hlt2)]
      exact ze_i S hW hr hlk () (congrArg (fun z => cM cy ad z ex) (by rw [hk9, if_pos rfl]; exact congrArg (fun z => enc z 0) (by unfold u_launch; rw [hB, ix_nI (show B < 2 ^ 31 by omega)]))) (by rw [hk9, if_pos rfl] <;> exact (by unfold v_launch; rw [hB])) (Nat.le_of_ble_eq_true rfl) (Nat.le_of_ble_eq_true rfl) dX4_launch_67
    · have hlt2 : ¬ al 0 6 < 4 := by rw [hB, c28]; decide
      refine lv_aload_n hx hb dX4_launch_31 rfl (lv_at hl 0 rfl) ?_
      refine lv_iconst (v := 2) hx hb dX4_launch_32 (by decide) ?_
      refine z_cVi (As := [.int 2]) (rest := []) (k := 28) S hE hW (cX4_fail_ok l D n ad cy sa H.size hn al 0 ex 2) (cwV 1 hts gX4_launch_X4_fail rfl rfl rfl (by decide +kernel) ⟨Nat.le_of_ble_eq_true rfl, Nat.le_of_ble_eq_true rfl⟩) (Nat.lt_of_lt_of_le (by decide) hn) cM_0 rfl rfl rfl hl.1 rfl (Nat.le_of_ble_eq_true rfl) dX4_launch_33 ⟨Nat.le_of_ble_eq_true rfl, Nat.le_of_ble_eq_true rfl⟩ (fun r _ H locs hp hW => ?_)
      subst hp
      have hk9 : k_launch al x = 2 := by unfold k_launch; rw [if_neg (fun h => h c14), if_pos hlt2]
      exact ze_i S hW hr hlk () (congrArg (fun z => cM cy ad z ex) (by rw [hk9, if_neg (by decide)] <;> rfl)) (by rw [hk9, if_neg (by decide)]) (Nat.le_of_ble_eq_true rfl) (Nat.le_of_ble_eq_true rfl) dX4_launch_36
  · have c14 := zb_f c14
    refine lv_aload_n hx hb dX4_launch_17 rfl (lv_at hl 0 rfl) ?_
    refine lv_iconst (v := 1) hx hb dX4_launch_18 (by decide) ?_
    refine z_cVi (As := [.int 1]) (rest := []) (k := 28) S hE hW (cX4_fail_ok l D n ad cy sa H.size hn al 0 ex 1) (cwV 1 hts gX4_launch_X4_fail rfl rfl rfl (by decide +kernel) ⟨Nat.le_of_ble_eq_true rfl, Nat.le_of_ble_eq_true rfl⟩) (Nat.lt_of_lt_of_le (by decide) hn) cM_0 rfl rfl rfl hl.1 rfl (Nat.le_of_ble_eq_true rfl) dX4_launch_19 ⟨Nat.le_of_ble_eq_true rfl, Nat.le_of_ble_eq_true rfl⟩ (fun r _ H locs hp hW => ?_)
    subst hp
    have hk9 : k_launch al x = 1 := by unfold k_launch; rw [if_pos c14]
    exact ze_i S hW hr hlk () (congrArg (fun z => cM cy ad z ex) (by rw [hk9, if_neg (by decide)] <;> rfl)) (by rw [hk9, if_neg (by decide)]) (Nat.le_of_ble_eq_true rfl) (Nat.le_of_ble_eq_true rfl) dX4_launch_22
set_option maxHeartbeats 4000000 in
set_option maxRecDepth 100000 in
theorem cX4_fill_ok (l : Launch) (D : va_G) (n : Nat) (ad cy sa : Nat → Nat) (sz : Nat) (hn : 35 ≤ n) (al : Nat → Nat → Int32) (th : Int32) (ex : Nat → va_E) (x : Int32) (y : Int32) (N : Nat) (hN : al 0 4 = nI N) (hN6 : N ≤ 6) (hrw : rowO al N) : Met l yX4_fill wsX4_fill ({ frames := 2, cells := 0, slots := 0, locals := 43 }) (PW D n ad cy sa sz (cM cy ad (enc al th) ex) [.ref (ad 28), .int x, .int y]) (QDi D n ad sz (if k_fill al x y = 0 then v_fill al x y else 0) (cM cy ad (enc (if k_fill al x y = 0 then u_fill al x y else al) (nI (k_fill al x y))) ex)) 0 0 (Acc n ad sz) := by
  refine zs_met (cc := cX4_fill) (maxL := 3) (ret := (some .int)) (own := RX4) (by decide) rfl rfl (Nat.le_of_ble_eq_true rfl) ?_
  intro p e s m args below meth c ls S hE hW hr hlk hsz hav hl
  subst hsz
  have hx := S.1
  have hb := S.2.1
  have hown := S.2.2.2.1
  have hts := S.2.2.2.2
  have hl : lv_has ls 3 [(0, .ref (ad 28)), (1, .int x), (2, .int y)] := hl
  have f28 := hts (.fieldLink RX4 28 "PumiceSledgeModel" "thrown" "I") (by decide +kernel)
  have hi4 : ∀ w ∈ wsX40, w ∈ wsX4_fill := by decide +kernel
  have f9 := hts (.fieldLink RX4 9 "PumiceSledgeModel" "stones" "[I") (by decide +kernel)
  have f13 := hts (.fieldLink RX4 13 "PumiceSledgeModel" "weights" "[I") (by decide +kernel)
  refine lv_aload_n hx hb dX4_fill_0 rfl (lv_at hl 0 rfl) ?_
  refine lv_iconst (v := 0) hx hb dX4_fill_1 (by decide) ?_
  refine z_put (ce' := cM cy ad (zup (enc al th) 0 0 0) ex) (C := RX4) (T := TX4) (N := 9) (ci := 4) S hE hW hi4 tyX4 tyX4_ok nmX4 rfl (Nat.lt_of_lt_of_le (by decide) hn) cM_0 0 (by decide) rfl f28 rfl rfl (Nat.le_of_ble_eq_true rfl) (pM_0 (by decide)) (fun j h => cM_o h) dX4_fill_2 (fun H locs hW => ?_)
  rw [e_th] at hW
  refine lv_aload_n hx hb dX4_fill_5 rfl (lv_at hl 0 rfl) ?_
  refine lv_iload_n hx hb dX4_fill_6 rfl (lv_at hl 1 rfl) ?_
  refine z_cVi (As := [.int x]) (rest := []) (k := 28) S hE hW (cX4_isSledge_ok l D n ad cy sa H.size hn al 0 ex x N (hN) hN6) (cwV 1 hts gX4_fill_X4_isSledge rfl rfl rfl (by decide +kernel) ⟨Nat.le_of_ble_eq_true rfl, Nat.le_of_ble_eq_true rfl⟩) (Nat.lt_of_lt_of_le (by decide) hn) cM_0 rfl rfl rfl hl.1 rfl (Nat.le_of_ble_eq_true rfl) dX4_fill_7 ⟨Nat.le_of_ble_eq_true rfl, Nat.le_of_ble_eq_true rfl⟩ (fun r _ H locs hp hW => ?_)
  subst hp
  refine lv_if_eq (tgt := 20) hx hb dX4_fill_10 (by decide) (fun c10 => ?_) (fun c10 => ?_)
  · have c10 := zb_f c10
    refine lv_aload_n hx hb dX4_fill_20 rfl (lv_at hl 0 rfl) ?_
    refine lv_iconst (v := 1) hx hb dX4_fill_21 (by decide) ?_
    refine z_cVi (As := [.int 1]) (rest := []) (k := 28) S hE hW (cX4_fail_ok l D n ad cy sa H.size hn al 0 ex 1) (cwV 1 hts gX4_fill_X4_fail rfl rfl rfl (by decide +kernel) ⟨Nat.le_of_ble_eq_true rfl, Nat.le_of_ble_eq_true rfl⟩) (Nat.lt_of_lt_of_le (by decide) hn) cM_0 rfl rfl rfl hl.1 rfl (Nat.le_of_ble_eq_true rfl) dX4_fill_22 ⟨Nat.le_of_ble_eq_true rfl, Nat.le_of_ble_eq_true rfl⟩ (fun r _ H locs hp hW => ?_)
    subst hp
    have hk9 : k_fill al x y = 1 := by unfold k_fill; rw [if_pos c10]
    exact ze_i S hW hr hlk () (congrArg (fun z => cM cy ad z ex) (by rw [hk9, if_neg (by decide)] <;> rfl)) (by rw [hk9, if_neg (by decide)]) (Nat.le_of_ble_eq_true rfl) (Nat.le_of_ble_eq_true rfl) dX4_fill_25
  · have c10 := zb_t c10
    refine lv_iload_n hx hb dX4_fill_13 rfl (lv_at hl 2 rfl) ?_
    refine z_pS (As := [.int y]) (rest := []) S hE hW (cX4_isLayer_ok l y) (va_cwS 1 hts gX4_fill_X4_isLayer rfl rfl rfl (by decide +kernel) ⟨Nat.le_of_ble_eq_true rfl, Nat.le_of_ble_eq_true rfl⟩) rfl hl.1 rfl (Nat.le_of_ble_eq_true rfl) dX4_fill_14 ⟨Nat.le_of_ble_eq_true rfl, Nat.le_of_ble_eq_true rfl⟩ (fun H locs hW => ?_)
    refine lv_if_ne (tgt := 26) hx hb dX4_fill_17 (by decide) (fun c17 => ?_) (fun c17 => ?_)
    · have c17 := zb_t c17
      obtain ⟨i, hi, rfl⟩ := zS_ex hN (by omega) c10
      obtain ⟨j, hj, rfl⟩ := zIn_ex 4 rfl (by decide) c17
      obtain ⟨o, a, ho, ha, hao, ho8⟩ := hrw i (by omega)
      refine lv_aload_n hx hb dX4_fill_26 rfl (lv_at hl 0 rfl) ?_
      refine lv_iload_n hx hb dX4_fill_27 rfl (lv_at hl 1 rfl) ?_
      refine lv_iconst (v := 3) hx hb dX4_fill_28 (by decide) ?_
      refine z_cVi (As := [.int (nI i), .int 3]) (rest := []) (k := 28) S hE hW (cX4_sl_ok l D n ad cy sa H.size hn (enc al 0) ex i (by omega) 3 (by omega)) (cwV 2 hts gX4_fill_X4_sl rfl rfl rfl (by decide +kernel) ⟨Nat.le_of_ble_eq_true rfl, Nat.le_of_ble_eq_true rfl⟩) (Nat.lt_of_lt_of_le (by decide) hn) cM_0 rfl rfl rfl hl.1 rfl (Nat.le_of_ble_eq_true rfl) dX4_fill_29 ⟨Nat.le_of_ble_eq_true rfl, Nat.le_of_ble_eq_true rfl⟩ (fun r _ H locs hp hW => ?_)
      subst hp
      refine z_top2 (y := al (10 + i) 4) (r_s3 (by omega)) ?_
      refine lv_if_ne (tgt := 61) hx hb dX4_fill_32 (by decide) (fun c32 => ?_) (fun c32 => ?_)
      · refine lv_aload_n hx hb dX4_fill_61 rfl (lv_at hl 0 rfl) ?_
        refine lv_iconst (v := 2) hx hb dX4_fill_62 (by decide) ?_
        refine z_cVi (As := [.int 2]) (rest := []) (k := 28) S hE hW (cX4_fail_ok l D n ad cy sa H.size hn al 0 ex 2) (cwV 1 hts gX4_fill_X4_fail rfl rfl rfl (by decide +kernel) ⟨Nat.le_of_ble_eq_true rfl, Nat.le_of_ble_eq_true rfl⟩) (Nat.lt_of_lt_of_le (by decide) hn) cM_0 rfl rfl rfl hl.1 rfl (Nat.le_of_ble_eq_true rfl) dX4_fill_63 ⟨Nat.le_of_ble_eq_true rfl, Nat.le_of_ble_eq_true rfl⟩ (fun r _ H locs hp hW => ?_)
        subst hp
        have hk9 : k_fill al (nI i) (nI j) = 2 := by unfold k_fill; simp only [ix_nI (show i < 2 ^ 31 by omega), ix_nI (show j < 2 ^ 31 by omega)]; rw [if_neg (fun h => h c10), if_neg (fun h => h c17), if_pos c32]
        exact ze_i S hW hr hlk () (congrArg (fun z => cM cy ad z ex) (by rw [hk9, if_neg (by decide)] <;> rfl)) (by rw [hk9, if_neg (by decide)]) (Nat.le_of_ble_eq_true rfl) (Nat.le_of_ble_eq_true rfl) dX4_fill_66
      · refine lv_aload_n hx hb dX4_fill_35 rfl (lv_at hl 0 rfl) ?_
        refine lv_iload_n hx hb dX4_fill_36 rfl (lv_at hl 1 rfl) ?_
        refine lv_iconst (v := 1) hx hb dX4_fill_37 (by decide) ?_
        refine z_cVi (As := [.int (nI i), .int 1]) (rest := []) (k := 28) S hE hW (cX4_sl_ok l D n ad cy sa H.size hn (enc al 0) ex i (by omega) 1 (by omega)) (cwV 2 hts gX4_fill_X4_sl rfl rfl rfl (by decide +kernel) ⟨Nat.le_of_ble_eq_true rfl, Nat.le_of_ble_eq_true rfl⟩) (Nat.lt_of_lt_of_le (by decide) hn) cM_0 rfl rfl rfl hl.1 rfl (Nat.le_of_ble_eq_true rfl) dX4_fill_38 ⟨Nat.le_of_ble_eq_true rfl, Nat.le_of_ble_eq_true rfl⟩ (fun r _ H locs hp hW => ?_)
        subst hp
        refine z_top2 (y := nI a) ((r_s1 (by omega)).trans (ha)) ?_
        refine lv_aload_n hx hb dX4_fill_41 rfl (lv_at hl 0 rfl) ?_
        refine lv_iload_n hx hb dX4_fill_42 rfl (lv_at hl 1 rfl) ?_
        refine lv_iconst (v := 0) hx hb dX4_fill_43 (by decide) ?_
        refine z_cVi (As := [.int (nI i), .int 0]) (rest := [.int (nI a)]) (k := 28) S hE hW (cX4_sl_ok l D n ad cy sa H.size hn (enc al 0) ex i (by omega) 0 (by omega)) (cwV 2 hts gX4_fill_X4_sl rfl rfl rfl (by decide +kernel) ⟨Nat.le_of_ble_eq_true rfl, Nat.le_of_ble_eq_true rfl⟩) (Nat.lt_of_lt_of_le (by decide) hn) cM_0 rfl rfl rfl hl.1 rfl (Nat.le_of_ble_eq_true rfl) dX4_fill_44 ⟨Nat.le_of_ble_eq_true rfl, Nat.le_of_ble_eq_true rfl⟩ (fun r _ H locs hp hW => ?_)
        subst hp
        refine z_top2 (y := nI o) ((r_s0 (by omega)).trans (ho)) ?_
        refine lv_icmp_eq (tgt := 61) hx hb dX4_fill_47 (by decide) (fun c47 => ?_) (fun c47 => ?_)
        · have hfl : al (10 + i) 0 ≤ al (10 + i) 2 ∨ ¬ al (10 + i) 2 < 8 := by rw [ho, ha]; exact (z_fullE hao ho8).mpr c47
          refine lv_aload_n hx hb dX4_fill_61 rfl (lv_at hl 0 rfl) ?_
          refine lv_iconst (v := 2) hx hb dX4_fill_62 (by decide) ?_
          refine z_cVi (As := [.int 2]) (rest := []) (k := 28) S hE hW (cX4_fail_ok l D n ad cy sa H.size hn al 0 ex 2) (cwV 1 hts gX4_fill_X4_fail rfl rfl rfl (by decide +kernel) ⟨Nat.le_of_ble_eq_true rfl, Nat.le_of_ble_eq_true rfl⟩) (Nat.lt_of_lt_of_le (by decide) hn) cM_0 rfl rfl rfl hl.1 rfl (Nat.le_of_ble_eq_true rfl) dX4_fill_63 ⟨Nat.le_of_ble_eq_true rfl, Nat.le_of_ble_eq_true rfl⟩ (fun r _ H locs hp hW => ?_)
          subst hp
          have hk9 : k_fill al (nI i) (nI j) = 2 := by unfold k_fill; simp only [ix_nI (show i < 2 ^ 31 by omega), ix_nI (show j < 2 ^ 31 by omega)]; rw [if_neg (fun h => h c10), if_neg (fun h => h c17), if_neg (fun h => h c32), if_pos hfl]
          exact ze_i S hW hr hlk () (congrArg (fun z => cM cy ad z ex) (by rw [hk9, if_neg (by decide)] <;> rfl)) (by rw [hk9, if_neg (by decide)]) (Nat.le_of_ble_eq_true rfl) (Nat.le_of_ble_eq_true rfl) dX4_fill_66
        · have hfl : ¬ (al (10 + i) 0 ≤ al (10 + i) 2 ∨ ¬ al (10 + i) 2 < 8) := by rw [ho, ha]; exact fun q => c47 ((z_fullE hao ho8).mp q)
          have ha9 : a < 8 := Nat.lt_of_lt_of_le (z_ne hao c47) ho8
          refine lv_aload_n hx hb dX4_fill_50 rfl (lv_at hl 0 rfl) ?_
          refine z_get (C := RX4) (T := TX4) (N := 9) (ci := 4) S hE hW hi4 rfl (Nat.lt_of_lt_of_le (by decide) hn) cM_0 3 (by decide) rfl f9 (v := .ref (ad 29)) rfl dX4_fill_51 ?_
          refine lv_iload_n hx hb dX4_fill_54 rfl (lv_at hl 2 rfl) ?_
          refine z_ald S hE hW (Nat.lt_of_lt_of_le (by decide) hn) cM_1 j rfl (by omega) (by decide) (v := al 1 j) (r_st) dX4_fill_55 ?_
          refine lv_bipush (v := 10) hx hb dX4_fill_56 (by decide) ?_
          refine lv_icmp_ge (tgt := 67) hx hb dX4_fill_58 (by decide) (fun c58 => ?_) (fun c58 => ?_)
          · refine lv_aload_n hx hb dX4_fill_67 rfl (lv_at hl 0 rfl) ?_
            refine z_get (C := RX4) (T := TX4) (N := 9) (ci := 4) S hE hW hi4 rfl (Nat.lt_of_lt_of_le (by decide) hn) cM_0 3 (by decide) rfl f9 (v := .ref (ad 29)) rfl dX4_fill_68 ?_
            refine lv_iload_n hx hb dX4_fill_71 rfl (lv_at hl 2 rfl) ?_
            refine lv_dup2_11 hx hb dX4_fill_72 rfl rfl ?_
            refine z_ald S hE hW (Nat.lt_of_lt_of_le (by decide) hn) cM_1 j rfl (by omega) (by decide) (v := al 1 j) (r_st) dX4_fill_73 ?_
            refine lv_bipush (v := 10) hx hb dX4_fill_74 (by decide) ?_
            refine lv_isub hx hb dX4_fill_76 ?_
            refine z_ast (ce' := cM cy ad (zup (enc al 0) 1 j (al 1 j - 10)) ex) S hE hW (Nat.lt_of_lt_of_le (by decide) hn) cM_1 j rfl (by omega) (by decide) pM_1 (fun j h => cM_o h) dX4_fill_77 (fun H locs hW => ?_)
            rw [e_st] at hW
            refine lv_aload_n hx hb dX4_fill_78 rfl (lv_at hl 0 rfl) ?_
            refine lv_iload_n hx hb dX4_fill_79 rfl (lv_at hl 1 rfl) ?_
            refine lv_iconst (v := 4) hx hb dX4_fill_80 (by decide) ?_
            refine lv_aload_n hx hb dX4_fill_81 rfl (lv_at hl 0 rfl) ?_
            refine lv_iload_n hx hb dX4_fill_82 rfl (lv_at hl 1 rfl) ?_
            refine lv_iconst (v := 1) hx hb dX4_fill_83 (by decide) ?_
            refine z_cVi (As := [.int (nI i), .int 1]) (rest := [.int 4, .int (nI i), .ref (ad 28)]) (k := 28) S hE hW (cX4_sl_ok l D n ad cy sa H.size hn (enc (zup al 1 j (al 1 j - 10)) 0) ex i (by omega) 1 (by omega)) (cwV 2 hts gX4_fill_X4_sl rfl rfl rfl (by decide +kernel) ⟨Nat.le_of_ble_eq_true rfl, Nat.le_of_ble_eq_true rfl⟩) (Nat.lt_of_lt_of_le (by decide) hn) cM_0 rfl rfl rfl hl.1 rfl (Nat.le_of_ble_eq_true rfl) dX4_fill_84 ⟨Nat.le_of_ble_eq_true rfl, Nat.le_of_ble_eq_true rfl⟩ (fun r _ H locs hp hW => ?_)
            subst hp
            refine z_top2 (y := nI a) ((r_s1 (by omega)).trans ((congrFun (zup_o (by omega)) 2).trans ha)) ?_
            refine lv_iadd hx hb dX4_fill_87 ?_
            refine z_top2 (y := nI (4 + a)) (nI_add 4 a) ?_
            refine lv_bipush (v := 10) hx hb dX4_fill_88 (by decide) ?_
            refine lv_aload_n hx hb dX4_fill_90 rfl (lv_at hl 0 rfl) ?_
            refine z_get (C := RX4) (T := TX4) (N := 9) (ci := 4) S hE hW hi4 rfl (Nat.lt_of_lt_of_le (by decide) hn) cM_0 4 (by decide) rfl f13 (v := .ref (ad 30)) rfl dX4_fill_91 ?_
            refine lv_iload_n hx hb dX4_fill_94 rfl (lv_at hl 2 rfl) ?_
            refine z_ald S hE hW (Nat.lt_of_lt_of_le (by decide) hn) cM_2 j rfl (by omega) (by decide) (v := al 2 j) ((r_sw).trans (congrFun (zup_o (by omega)) j)) dX4_fill_95 ?_
            refine lv_imul hx hb dX4_fill_96 ?_
            refine z_cVv (As := [.int (nI i), .int (nI (4 + a)), .int (10 * al 2 j)]) (rest := []) (k := 28) S hE hW (cX4_put_ok l D n ad cy sa H.size hn (enc (zup al 1 j (al 1 j - 10)) 0) ex i (by omega) (4 + a) (by omega) (10 * al 2 j)) (cwV 3 hts gX4_fill_X4_put rfl rfl rfl (by decide +kernel) ⟨Nat.le_of_ble_eq_true rfl, Nat.le_of_ble_eq_true rfl⟩) (Nat.lt_of_lt_of_le (by decide) hn) cM_0 rfl rfl rfl hl.1 rfl (Nat.le_of_ble_eq_true rfl) dX4_fill_97 ⟨Nat.le_of_ble_eq_true rfl, Nat.le_of_ble_eq_true rfl⟩ (fun _ H locs _ hW => ?_)
            rw [e_w (k := a) (by omega) (by omega)] at hW
            refine lv_aload_n hx hb dX4_fill_100 rfl (lv_at hl 0 rfl) ?_
            refine lv_iload_n hx hb dX4_fill_101 rfl (lv_at hl 1 rfl) ?_
            refine lv_iconst (v := 1) hx hb dX4_fill_102 (by decide) ?_
            refine lv_aload_n hx hb dX4_fill_103 rfl (lv_at hl 0 rfl) ?_
            refine lv_iload_n hx hb dX4_fill_104 rfl (lv_at hl 1 rfl) ?_
            refine lv_iconst (v := 1) hx hb dX4_fill_105 (by decide) ?_
            refine z_cVi (As := [.int (nI i), .int 1]) (rest := [.int 1, .int (nI i), .ref (ad 28)]) (k := 28) S hE hW (cX4_sl_ok l D n ad cy sa H.size hn (enc (zup (zup al 1 j (al 1 j - 10)) (17 + i) a (10 * al 2 j)) 0) ex i (by omega) 1 (by omega)) (cwV 2 hts gX4_fill_X4_sl rfl rfl rfl (by decide +kernel) ⟨Nat.le_of_ble_eq_true rfl, Nat.le_of_ble_eq_true rfl⟩) (Nat.lt_of_lt_of_le (by decide) hn) cM_0 rfl rfl rfl hl.1 rfl (Nat.le_of_ble_eq_true rfl) dX4_fill_106 ⟨Nat.le_of_ble_eq_true rfl, Nat.le_of_ble_eq_true rfl⟩ (fun r _ H locs hp hW => ?_)
            subst hp
            refine z_top2 (y := nI a) ((r_s1 (by omega)).trans (((congrFun (zup_o (by omega)) 2).trans (congrFun (zup_o (by omega)) 2)).trans ha)) ?_
            refine lv_iconst (v := 1) hx hb dX4_fill_109 (by decide) ?_
            refine lv_iadd hx hb dX4_fill_110 ?_
            refine z_cVv (As := [.int (nI i), .int 1, .int (nI a + 1)]) (rest := []) (k := 28) S hE hW (cX4_put_ok l D n ad cy sa H.size hn (enc (zup (zup al 1 j (al 1 j - 10)) (17 + i) a (10 * al 2 j)) 0) ex i (by omega) 1 (by omega) (nI a + 1)) (cwV 3 hts gX4_fill_X4_put rfl rfl rfl (by decide +kernel) ⟨Nat.le_of_ble_eq_true rfl, Nat.le_of_ble_eq_true rfl⟩) (Nat.lt_of_lt_of_le (by decide) hn) cM_0 rfl rfl rfl hl.1 rfl (Nat.le_of_ble_eq_true rfl) dX4_fill_111 ⟨Nat.le_of_ble_eq_true rfl, Nat.le_of_ble_eq_true rfl⟩ (fun _ H locs _ hW => ?_)
            rw [e_s1 (by omega)] at hW
            refine lv_bipush (v := 10) hx hb dX4_fill_114 (by decide) ?_
            refine lv_aload_n hx hb dX4_fill_116 rfl (lv_at hl 0 rfl) ?_
            refine z_get (C := RX4) (T := TX4) (N := 9) (ci := 4) S hE hW hi4 rfl (Nat.lt_of_lt_of_le (by decide) hn) cM_0 4 (by decide) rfl f13 (v := .ref (ad 30)) rfl dX4_fill_117 ?_
            refine lv_iload_n hx hb dX4_fill_120 rfl (lv_at hl 2 rfl) ?_
            refine z_ald S hE hW (Nat.lt_of_lt_of_le (by decide) hn) cM_2 j rfl (by omega) (by decide) (v := al 2 j) ((r_sw).trans ((congrFun (zup_o (by omega)) j).trans ((congrFun (zup_o (by omega)) j).trans (congrFun (zup_o (by omega)) j)))) dX4_fill_121 ?_
            refine lv_imul hx hb dX4_fill_122 ?_
            refine z_pS (As := [.int (10 * al 2 j)]) (rest := []) S hE hW (cX4_kind_ok l (10 * al 2 j)) (va_cwS 1 hts gX4_fill_X4_kind rfl rfl rfl (by decide +kernel) ⟨Nat.le_of_ble_eq_true rfl, Nat.le_of_ble_eq_true rfl⟩) rfl hl.1 rfl (Nat.le_of_ble_eq_true rfl) dX4_fill_123 ⟨Nat.le_of_ble_eq_true rfl, Nat.le_of_ble_eq_true rfl⟩ (fun H locs hW => ?_)
            have hk9 : k_fill al (nI i) (nI j) = 0 := by unfold k_fill; simp only [ix_nI (show i < 2 ^ 31 by omega), ix_nI (show j < 2 ^ 31 by omega)]; rw [if_neg (fun h => h c10), if_neg (fun h => h c17), if_neg (fun h => h c32), if_neg hfl, if_neg (fun h => h c58)]
            exact ze_i S hW hr hlk () (congrArg (fun z => cM cy ad z ex) (by rw [hk9, if_pos rfl]; exact congrArg (fun z => enc z 0) (by unfold u_fill; rw [ix_nI (show i < 2 ^ 31 by omega), ix_nI (show j < 2 ^ 31 by omega), ha, ix_nI (show a < 2 ^ 31 by omega)]))) (by rw [hk9, if_pos rfl] <;> exact (by unfold v_fill; rw [ix_nI (show j < 2 ^ 31 by omega)])) (Nat.le_of_ble_eq_true rfl) (Nat.le_of_ble_eq_true rfl) dX4_fill_126
          · refine lv_aload_n hx hb dX4_fill_61 rfl (lv_at hl 0 rfl) ?_
            refine lv_iconst (v := 2) hx hb dX4_fill_62 (by decide) ?_
            refine z_cVi (As := [.int 2]) (rest := []) (k := 28) S hE hW (cX4_fail_ok l D n ad cy sa H.size hn al 0 ex 2) (cwV 1 hts gX4_fill_X4_fail rfl rfl rfl (by decide +kernel) ⟨Nat.le_of_ble_eq_true rfl, Nat.le_of_ble_eq_true rfl⟩) (Nat.lt_of_lt_of_le (by decide) hn) cM_0 rfl rfl rfl hl.1 rfl (Nat.le_of_ble_eq_true rfl) dX4_fill_63 ⟨Nat.le_of_ble_eq_true rfl, Nat.le_of_ble_eq_true rfl⟩ (fun r _ H locs hp hW => ?_)
            subst hp
            have hk9 : k_fill al (nI i) (nI j) = 2 := by unfold k_fill; simp only [ix_nI (show i < 2 ^ 31 by omega), ix_nI (show j < 2 ^ 31 by omega)]; rw [if_neg (fun h => h c10), if_neg (fun h => h c17), if_neg (fun h => h c32), if_neg hfl, if_pos c58]
            exact ze_i S hW hr hlk () (congrArg (fun z => cM cy ad z ex) (by rw [hk9, if_neg (by decide)] <;> rfl)) (by rw [hk9, if_neg (by decide)]) (Nat.le_of_ble_eq_true rfl) (Nat.le_of_ble_eq_true rfl) dX4_fill_66
    · have c17 := zb_f c17
      refine lv_aload_n hx hb dX4_fill_20 rfl (lv_at hl 0 rfl) ?_
      refine lv_iconst (v := 1) hx hb dX4_fill_21 (by decide) ?_
      refine z_cVi (As := [.int 1]) (rest := []) (k := 28) S hE hW (cX4_fail_ok l D n ad cy sa H.size hn al 0 ex 1) (cwV 1 hts gX4_fill_X4_fail rfl rfl rfl (by decide +kernel) ⟨Nat.le_of_ble_eq_true rfl, Nat.le_of_ble_eq_true rfl⟩) (Nat.lt_of_lt_of_le (by decide) hn) cM_0 rfl rfl rfl hl.1 rfl (Nat.le_of_ble_eq_true rfl) dX4_fill_22 ⟨Nat.le_of_ble_eq_true rfl, Nat.le_of_ble_eq_true rfl⟩ (fun r _ H locs hp hW => ?_)
      subst hp
      have hk9 : k_fill al x y = 1 := by unfold k_fill; rw [if_neg (fun h => h c10), if_pos c17]
      exact ze_i S hW hr hlk () (congrArg (fun z => cM cy ad z ex) (by rw [hk9, if_neg (by decide)] <;> rfl)) (by rw [hk9, if_neg (by decide)]) (Nat.le_of_ble_eq_true rfl) (Nat.le_of_ble_eq_true rfl) dX4_fill_25
set_option maxHeartbeats 4000000 in
set_option maxRecDepth 100000 in
theorem cX4_go_ok (l : Launch) (D : va_G) (n : Nat) (ad cy sa : Nat → Nat) (sz : Nat) (hn : 35 ≤ n) (al : Nat → Nat → Int32) (th : Int32) (ex : Nat → va_E) (x : Int32) (N : Nat) (hN : al 0 4 = nI N) (hN6 : N ≤ 6) : Met l yX4_go wsX4_go ({ frames := 2, cells := 0, slots := 0, locals := 43 }) (PW D n ad cy sa sz (cM cy ad (enc al th) ex) [.ref (ad 28), .int x]) (QDi D n ad sz (if k_go al x = 0 then v_go al x else 0) (cM cy ad (enc (if k_go al x = 0 then u_go al x else al) (nI (k_go al x))) ex)) 0 0 (Acc n ad sz) := by
  refine zs_met (cc := cX4_go) (maxL := 2) (ret := (some .int)) (own := RX4) (by decide) rfl rfl (Nat.le_of_ble_eq_true rfl) ?_
  intro p e s m args below meth c ls S hE hW hr hlk hsz hav hl
  subst hsz
  have hx := S.1
  have hb := S.2.1
  have hown := S.2.2.2.1
  have hts := S.2.2.2.2
  have hl : lv_has ls 2 [(0, .ref (ad 28)), (1, .int x)] := hl
  have f28 := hts (.fieldLink RX4 28 "PumiceSledgeModel" "thrown" "I") (by decide +kernel)
  have hi4 : ∀ w ∈ wsX40, w ∈ wsX4_go := by decide +kernel
  refine lv_aload_n hx hb dX4_go_0 rfl (lv_at hl 0 rfl) ?_
  refine lv_iconst (v := 0) hx hb dX4_go_1 (by decide) ?_
  refine z_put (ce' := cM cy ad (zup (enc al th) 0 0 0) ex) (C := RX4) (T := TX4) (N := 9) (ci := 4) S hE hW hi4 tyX4 tyX4_ok nmX4 rfl (Nat.lt_of_lt_of_le (by decide) hn) cM_0 0 (by decide) rfl f28 rfl rfl (Nat.le_of_ble_eq_true rfl) (pM_0 (by decide)) (fun j h => cM_o h) dX4_go_2 (fun H locs hW => ?_)
  rw [e_th] at hW
  refine lv_aload_n hx hb dX4_go_5 rfl (lv_at hl 0 rfl) ?_
  refine lv_iload_n hx hb dX4_go_6 rfl (lv_at hl 1 rfl) ?_
  refine z_cVi (As := [.int x]) (rest := []) (k := 28) S hE hW (cX4_isSledge_ok l D n ad cy sa H.size hn al 0 ex x N (hN) hN6) (cwV 1 hts gX4_go_X4_isSledge rfl rfl rfl (by decide +kernel) ⟨Nat.le_of_ble_eq_true rfl, Nat.le_of_ble_eq_true rfl⟩) (Nat.lt_of_lt_of_le (by decide) hn) cM_0 rfl rfl rfl hl.1 rfl (Nat.le_of_ble_eq_true rfl) dX4_go_7 ⟨Nat.le_of_ble_eq_true rfl, Nat.le_of_ble_eq_true rfl⟩ (fun r _ H locs hp hW => ?_)
  subst hp
  refine lv_if_ne (tgt := 19) hx hb dX4_go_10 (by decide) (fun c10 => ?_) (fun c10 => ?_)
  · have c10 := zb_t c10
    obtain ⟨i, hi, rfl⟩ := zS_ex hN (by omega) c10
    refine lv_aload_n hx hb dX4_go_19 rfl (lv_at hl 0 rfl) ?_
    refine lv_iload_n hx hb dX4_go_20 rfl (lv_at hl 1 rfl) ?_
    refine lv_iconst (v := 3) hx hb dX4_go_21 (by decide) ?_
    refine z_cVi (As := [.int (nI i), .int 3]) (rest := []) (k := 28) S hE hW (cX4_sl_ok l D n ad cy sa H.size hn (enc al 0) ex i (by omega) 3 (by omega)) (cwV 2 hts gX4_go_X4_sl rfl rfl rfl (by decide +kernel) ⟨Nat.le_of_ble_eq_true rfl, Nat.le_of_ble_eq_true rfl⟩) (Nat.lt_of_lt_of_le (by decide) hn) cM_0 rfl rfl rfl hl.1 rfl (Nat.le_of_ble_eq_true rfl) dX4_go_22 ⟨Nat.le_of_ble_eq_true rfl, Nat.le_of_ble_eq_true rfl⟩ (fun r _ H locs hp hW => ?_)
    subst hp
    refine z_top2 (y := al (10 + i) 4) (r_s3 (by omega)) ?_
    refine lv_if_eq (tgt := 34) hx hb dX4_go_25 (by decide) (fun c25 => ?_) (fun c25 => ?_)
    · refine lv_aload_n hx hb dX4_go_34 rfl (lv_at hl 0 rfl) ?_
      refine lv_iload_n hx hb dX4_go_35 rfl (lv_at hl 1 rfl) ?_
      refine lv_iconst (v := 3) hx hb dX4_go_36 (by decide) ?_
      refine lv_iconst (v := 1) hx hb dX4_go_37 (by decide) ?_
      refine z_cVv (As := [.int (nI i), .int 3, .int 1]) (rest := []) (k := 28) S hE hW (cX4_put_ok l D n ad cy sa H.size hn (enc al 0) ex i (by omega) 3 (by omega) 1) (cwV 3 hts gX4_go_X4_put rfl rfl rfl (by decide +kernel) ⟨Nat.le_of_ble_eq_true rfl, Nat.le_of_ble_eq_true rfl⟩) (Nat.lt_of_lt_of_le (by decide) hn) cM_0 rfl rfl rfl hl.1 rfl (Nat.le_of_ble_eq_true rfl) dX4_go_38 ⟨Nat.le_of_ble_eq_true rfl, Nat.le_of_ble_eq_true rfl⟩ (fun _ H locs _ hW => ?_)
      rw [e_s3 (by omega)] at hW
      refine lv_aload_n hx hb dX4_go_41 rfl (lv_at hl 0 rfl) ?_
      refine lv_iload_n hx hb dX4_go_42 rfl (lv_at hl 1 rfl) ?_
      refine lv_iconst (v := 1) hx hb dX4_go_43 (by decide) ?_
      refine z_cVi (As := [.int (nI i), .int 1]) (rest := []) (k := 28) S hE hW (cX4_sl_ok l D n ad cy sa H.size hn (enc (zup al (10 + i) 4 1) 0) ex i (by omega) 1 (by omega)) (cwV 2 hts gX4_go_X4_sl rfl rfl rfl (by decide +kernel) ⟨Nat.le_of_ble_eq_true rfl, Nat.le_of_ble_eq_true rfl⟩) (Nat.lt_of_lt_of_le (by decide) hn) cM_0 rfl rfl rfl hl.1 rfl (Nat.le_of_ble_eq_true rfl) dX4_go_44 ⟨Nat.le_of_ble_eq_true rfl, Nat.le_of_ble_eq_true rfl⟩ (fun r _ H locs hp hW => ?_)
      subst hp
      refine z_top2 (y := al (10 + i) 2) ((r_s1 (by omega)).trans ((congrFun zup_k 2).trans (up_n (by decide)))) ?_
      have hk9 : k_go al (nI i) = 0 := by unfold k_go; simp only [ix_nI (show i < 2 ^ 31 by omega)]; rw [if_neg (fun h => h c10), if_neg (fun h => h c25)]
      exact ze_i S hW hr hlk () (congrArg (fun z => cM cy ad z ex) (by rw [hk9, if_pos rfl]; exact congrArg (fun z => enc z 0) (by unfold u_go; rw [ix_nI (show i < 2 ^ 31 by omega)]))) (by rw [hk9, if_pos rfl] <;> exact (by unfold v_go; rw [ix_nI (show i < 2 ^ 31 by omega)])) (Nat.le_of_ble_eq_true rfl) (Nat.le_of_ble_eq_true rfl) dX4_go_47
    · refine lv_aload_n hx hb dX4_go_28 rfl (lv_at hl 0 rfl) ?_
      refine lv_iconst (v := 2) hx hb dX4_go_29 (by decide) ?_
      refine z_cVi (As := [.int 2]) (rest := []) (k := 28) S hE hW (cX4_fail_ok l D n ad cy sa H.size hn al 0 ex 2) (cwV 1 hts gX4_go_X4_fail rfl rfl rfl (by decide +kernel) ⟨Nat.le_of_ble_eq_true rfl, Nat.le_of_ble_eq_true rfl⟩) (Nat.lt_of_lt_of_le (by decide) hn) cM_0 rfl rfl rfl hl.1 rfl (Nat.le_of_ble_eq_true rfl) dX4_go_30 ⟨Nat.le_of_ble_eq_true rfl, Nat.le_of_ble_eq_true rfl⟩ (fun r _ H locs hp hW => ?_)
      subst hp
      have hk9 : k_go al (nI i) = 2 := by unfold k_go; simp only [ix_nI (show i < 2 ^ 31 by omega)]; rw [if_neg (fun h => h c10), if_pos c25]
      exact ze_i S hW hr hlk () (congrArg (fun z => cM cy ad z ex) (by rw [hk9, if_neg (by decide)] <;> rfl)) (by rw [hk9, if_neg (by decide)]) (Nat.le_of_ble_eq_true rfl) (Nat.le_of_ble_eq_true rfl) dX4_go_33
  · have c10 := zb_f c10
    refine lv_aload_n hx hb dX4_go_13 rfl (lv_at hl 0 rfl) ?_
    refine lv_iconst (v := 1) hx hb dX4_go_14 (by decide) ?_
    refine z_cVi (As := [.int 1]) (rest := []) (k := 28) S hE hW (cX4_fail_ok l D n ad cy sa H.size hn al 0 ex 1) (cwV 1 hts gX4_go_X4_fail rfl rfl rfl (by decide +kernel) ⟨Nat.le_of_ble_eq_true rfl, Nat.le_of_ble_eq_true rfl⟩) (Nat.lt_of_lt_of_le (by decide) hn) cM_0 rfl rfl rfl hl.1 rfl (Nat.le_of_ble_eq_true rfl) dX4_go_15 ⟨Nat.le_of_ble_eq_true rfl, Nat.le_of_ble_eq_true rfl⟩ (fun r _ H locs hp hW => ?_)
    subst hp
    have hk9 : k_go al x = 1 := by unfold k_go; rw [if_pos c10]
    exact ze_i S hW hr hlk () (congrArg (fun z => cM cy ad z ex) (by rw [hk9, if_neg (by decide)] <;> rfl)) (by rw [hk9, if_neg (by decide)]) (Nat.le_of_ble_eq_true rfl) (Nat.le_of_ble_eq_true rfl) dX4_go_18
set_option maxHeartbeats 4000000 in
set_option maxRecDepth 100000 in
theorem cX4_stow_ok (l : Launch) (D : va_G) (n : Nat) (ad cy sa : Nat → Nat) (sz : Nat) (hn : 35 ≤ n) (al : Nat → Nat → Int32) (th : Int32) (ex : Nat → va_E) (x : Int32) (y : Int32) (z : Int32) (B : Nat) (hB : al 0 6 = nI B) (hB4 : B ≤ 4) (hbo : boatO al B) (hsk : sackO al) : Met l yX4_stow wsX4_stow ({ frames := 2, cells := 0, slots := 0, locals := 43 }) (PW D n ad cy sa sz (cM cy ad (enc al th) ex) [.ref (ad 28), .int x, .int y, .int z]) (QDi D n ad sz (if k_stow al x y z = 0 then v_stow al x y z else 0) (cM cy ad (enc (if k_stow al x y z = 0 then u_stow al x y z else al) (nI (k_stow al x y z))) ex)) 0 0 (Acc n ad sz) := by
  refine zs_met (cc := cX4_stow) (maxL := 4) (ret := (some .int)) (own := RX4) (by decide) rfl rfl (Nat.le_of_ble_eq_true rfl) ?_
  intro p e s m args below meth c ls S hE hW hr hlk hsz hav hl
  subst hsz
  have hx := S.1
  have hb := S.2.1
  have hown := S.2.2.2.1
  have hts := S.2.2.2.2
  have hl : lv_has ls 4 [(0, .ref (ad 28)), (1, .int x), (2, .int y), (3, .int z)] := hl
  have f28 := hts (.fieldLink RX4 28 "PumiceSledgeModel" "thrown" "I") (by decide +kernel)
  have hi4 : ∀ w ∈ wsX40, w ∈ wsX4_stow := by decide +kernel
  have f25 := hts (.fieldLink RX4 25 "PumiceSledgeModel" "numbers" "[I") (by decide +kernel)
  have f22 := hts (.fieldLink RX4 22 "PumiceSledgeModel" "fleet" "[I") (by decide +kernel)
  refine lv_aload_n hx hb dX4_stow_0 rfl (lv_at hl 0 rfl) ?_
  refine lv_iconst (v := 0) hx hb dX4_stow_1 (by decide) ?_
  refine z_put (ce' := cM cy ad (zup (enc al th) 0 0 0) ex) (C := RX4) (T := TX4) (N := 9) (ci := 4) S hE hW hi4 tyX4 tyX4_ok nmX4 rfl (Nat.lt_of_lt_of_le (by decide) hn) cM_0 0 (by decide) rfl f28 rfl rfl (Nat.le_of_ble_eq_true rfl) (pM_0 (by decide)) (fun j h => cM_o h) dX4_stow_2 (fun H locs hW => ?_)
  rw [e_th] at hW
  refine lv_aload_n hx hb dX4_stow_5 rfl (lv_at hl 0 rfl) ?_
  refine lv_iload_n hx hb dX4_stow_6 rfl (lv_at hl 1 rfl) ?_
  refine z_cVi (As := [.int x]) (rest := []) (k := 28) S hE hW (cX4_isBoat_ok l D n ad cy sa H.size hn al 0 ex x B (hB) hB4) (cwV 1 hts gX4_stow_X4_isBoat rfl rfl rfl (by decide +kernel) ⟨Nat.le_of_ble_eq_true rfl, Nat.le_of_ble_eq_true rfl⟩) (Nat.lt_of_lt_of_le (by decide) hn) cM_0 rfl rfl rfl hl.1 rfl (Nat.le_of_ble_eq_true rfl) dX4_stow_7 ⟨Nat.le_of_ble_eq_true rfl, Nat.le_of_ble_eq_true rfl⟩ (fun r _ H locs hp hW => ?_)
  subst hp
  refine lv_if_eq (tgt := 22) hx hb dX4_stow_10 (by decide) (fun c10 => ?_) (fun c10 => ?_)
  · have c10 := zb_f c10
    refine lv_aload_n hx hb dX4_stow_22 rfl (lv_at hl 0 rfl) ?_
    refine lv_iconst (v := 1) hx hb dX4_stow_23 (by decide) ?_
    refine z_cVi (As := [.int 1]) (rest := []) (k := 28) S hE hW (cX4_fail_ok l D n ad cy sa H.size hn al 0 ex 1) (cwV 1 hts gX4_stow_X4_fail rfl rfl rfl (by decide +kernel) ⟨Nat.le_of_ble_eq_true rfl, Nat.le_of_ble_eq_true rfl⟩) (Nat.lt_of_lt_of_le (by decide) hn) cM_0 rfl rfl rfl hl.1 rfl (Nat.le_of_ble_eq_true rfl) dX4_stow_24 ⟨Nat.le_of_ble_eq_true rfl, Nat.le_of_ble_eq_true rfl⟩ (fun r _ H locs hp hW => ?_)
    subst hp
    have hk9 : k_stow al x y z = 1 := by unfold k_stow; rw [if_pos c10]
    exact ze_i S hW hr hlk () (congrArg (fun z => cM cy ad z ex) (by rw [hk9, if_neg (by decide)] <;> rfl)) (by rw [hk9, if_neg (by decide)]) (Nat.le_of_ble_eq_true rfl) (Nat.le_of_ble_eq_true rfl) dX4_stow_27
  · have c10 := zb_t c10
    refine lv_iload_n hx hb dX4_stow_13 rfl (lv_at hl 2 rfl) ?_
    refine lv_iconst (v := 0) hx hb dX4_stow_14 (by decide) ?_
    refine lv_iconst (v := 2) hx hb dX4_stow_15 (by decide) ?_
    refine z_pS (As := [.int y, .int 0, .int 2]) (rest := []) S hE hW (cX4_isIn_ok l y 0 2) (va_cwS 3 hts gX4_stow_X4_isIn rfl rfl rfl (by decide +kernel) ⟨Nat.le_of_ble_eq_true rfl, Nat.le_of_ble_eq_true rfl⟩) rfl hl.1 rfl (Nat.le_of_ble_eq_true rfl) dX4_stow_16 ⟨Nat.le_of_ble_eq_true rfl, Nat.le_of_ble_eq_true rfl⟩ (fun H locs hW => ?_)
    refine lv_if_ne (tgt := 28) hx hb dX4_stow_19 (by decide) (fun c19 => ?_) (fun c19 => ?_)
    · have c19 := zb_t c19
      obtain ⟨i, hi, rfl⟩ := zS_ex hB (by omega) c10
      obtain ⟨j, hj, rfl⟩ := zIn_ex 2 rfl (by decide) c19
      obtain ⟨L, f, t, hL, hf, ht, hft, hL9⟩ := hbo i (by omega)
      obtain ⟨sc, hc, hc2⟩ := hsk j (by omega)
      refine lv_aload_n hx hb dX4_stow_28 rfl (lv_at hl 0 rfl) ?_
      refine z_get (C := RX4) (T := TX4) (N := 9) (ci := 4) S hE hW hi4 rfl (Nat.lt_of_lt_of_le (by decide) hn) cM_0 8 (by decide) rfl f25 (v := .ref (ad 34)) rfl dX4_stow_29 ?_
      refine lv_iconst (v := 3) hx hb dX4_stow_32 (by decide) ?_
      refine lv_iload_n hx hb dX4_stow_33 rfl (lv_at hl 2 rfl) ?_
      refine lv_iadd hx hb dX4_stow_34 ?_
      refine z_ald S hE hW (Nat.lt_of_lt_of_le (by decide) hn) cM_6 (3 + j) (nI_add 3 j) (by omega) (by decide) (v := al (8 + 0) j) ((r_mk (k := j) (by omega))) dX4_stow_35 ?_
      refine lv_if_eq (tgt := 58) hx hb dX4_stow_36 (by decide) (fun c36 => ?_) (fun c36 => ?_)
      · have hsk2 : ¬ 1 ≤ al (8 + 0) j := fun q => (z_sk hc hc2).mp q c36
        refine lv_aload_n hx hb dX4_stow_58 rfl (lv_at hl 0 rfl) ?_
        refine lv_iconst (v := 2) hx hb dX4_stow_59 (by decide) ?_
        refine z_cVi (As := [.int 2]) (rest := []) (k := 28) S hE hW (cX4_fail_ok l D n ad cy sa H.size hn al 0 ex 2) (cwV 1 hts gX4_stow_X4_fail rfl rfl rfl (by decide +kernel) ⟨Nat.le_of_ble_eq_true rfl, Nat.le_of_ble_eq_true rfl⟩) (Nat.lt_of_lt_of_le (by decide) hn) cM_0 rfl rfl rfl hl.1 rfl (Nat.le_of_ble_eq_true rfl) dX4_stow_60 ⟨Nat.le_of_ble_eq_true rfl, Nat.le_of_ble_eq_true rfl⟩ (fun r _ H locs hp hW => ?_)
        subst hp
        have hk9 : k_stow al (nI i) (nI j) z = 2 := by unfold k_stow; simp only [ix_nI (show i < 2 ^ 31 by omega), ix_nI (show j < 2 ^ 31 by omega)]; rw [if_neg (fun h => h c10), if_neg (fun h => h c19), if_pos hsk2]
        exact ze_i S hW hr hlk () (congrArg (fun z => cM cy ad z ex) (by rw [hk9, if_neg (by decide)] <;> rfl)) (by rw [hk9, if_neg (by decide)]) (Nat.le_of_ble_eq_true rfl) (Nat.le_of_ble_eq_true rfl) dX4_stow_63
      · have hsk2 : 1 ≤ al (8 + 0) j := (z_sk hc hc2).mpr c36
        refine lv_aload_n hx hb dX4_stow_39 rfl (lv_at hl 0 rfl) ?_
        refine lv_iload_n hx hb dX4_stow_40 rfl (lv_at hl 1 rfl) ?_
        refine z_cVi (As := [.int (nI i)]) (rest := []) (k := 28) S hE hW (cX4_all_ok l D n ad cy sa H.size hn al 0 ex i (by omega)) (cwV 1 hts gX4_stow_X4_all rfl rfl rfl (by decide +kernel) ⟨Nat.le_of_ble_eq_true rfl, Nat.le_of_ble_eq_true rfl⟩) (Nat.lt_of_lt_of_le (by decide) hn) cM_0 rfl rfl rfl hl.1 rfl (Nat.le_of_ble_eq_true rfl) dX4_stow_41 ⟨Nat.le_of_ble_eq_true rfl, Nat.le_of_ble_eq_true rfl⟩ (fun r _ H locs hp hW => ?_)
        subst hp
        refine lv_iload_n hx hb dX4_stow_44 rfl (lv_at hl 2 rfl) ?_
        refine z_pS (As := [.int (nI j)]) (rest := [.int (al (24 + i) 1 + al (24 + i) 2)]) S hE hW (cX4_stowed_ok l (nI j)) (va_cwS 1 hts gX4_stow_X4_stowed rfl rfl rfl (by decide +kernel) ⟨Nat.le_of_ble_eq_true rfl, Nat.le_of_ble_eq_true rfl⟩) rfl hl.1 rfl (Nat.le_of_ble_eq_true rfl) dX4_stow_45 ⟨Nat.le_of_ble_eq_true rfl, Nat.le_of_ble_eq_true rfl⟩ (fun H locs hW => ?_)
        refine lv_iadd hx hb dX4_stow_48 ?_
        refine lv_aload_n hx hb dX4_stow_49 rfl (lv_at hl 0 rfl) ?_
        refine lv_iload_n hx hb dX4_stow_50 rfl (lv_at hl 1 rfl) ?_
        refine lv_iconst (v := 0) hx hb dX4_stow_51 (by decide) ?_
        refine z_cVi (As := [.int (nI i), .int 0]) (rest := [.int ((al (24 + i) 1 + al (24 + i) 2) + stw (nI j))]) (k := 28) S hE hW (cX4_bo_ok l D n ad cy sa H.size hn (enc al 0) ex i (by omega) 0 (by omega)) (cwV 2 hts gX4_stow_X4_bo rfl rfl rfl (by decide +kernel) ⟨Nat.le_of_ble_eq_true rfl, Nat.le_of_ble_eq_true rfl⟩) (Nat.lt_of_lt_of_le (by decide) hn) cM_0 rfl rfl rfl hl.1 rfl (Nat.le_of_ble_eq_true rfl) dX4_stow_52 ⟨Nat.le_of_ble_eq_true rfl, Nat.le_of_ble_eq_true rfl⟩ (fun r _ H locs hp hW => ?_)
        subst hp
        refine z_top2 (y := al (24 + i) 0) (r_f (b := i) (k := 0) (by omega) (by decide)) ?_
        refine lv_icmp_le (tgt := 64) hx hb dX4_stow_55 (by decide) (fun c55 => ?_) (fun c55 => ?_)
        · have hrm : stw (nI j) ≤ ((al (24 + i) 0 - al (24 + i) 1) - al (24 + i) 2) := (z_roomE _ hL hf ht hft hL9).mp c55
          refine lv_aload_n hx hb dX4_stow_64 rfl (lv_at hl 0 rfl) ?_
          refine z_get (C := RX4) (T := TX4) (N := 9) (ci := 4) S hE hW hi4 rfl (Nat.lt_of_lt_of_le (by decide) hn) cM_0 8 (by decide) rfl f25 (v := .ref (ad 34)) rfl dX4_stow_65 ?_
          refine lv_iconst (v := 3) hx hb dX4_stow_68 (by decide) ?_
          refine lv_iload_n hx hb dX4_stow_69 rfl (lv_at hl 2 rfl) ?_
          refine lv_iadd hx hb dX4_stow_70 ?_
          refine lv_dup2_11 hx hb dX4_stow_71 rfl rfl ?_
          refine z_ald S hE hW (Nat.lt_of_lt_of_le (by decide) hn) cM_6 (3 + j) (nI_add 3 j) (by omega) (by decide) (v := al (8 + 0) j) ((r_mk (k := j) (by omega))) dX4_stow_72 ?_
          refine lv_iconst (v := 1) hx hb dX4_stow_73 (by decide) ?_
          refine lv_isub hx hb dX4_stow_74 ?_
          refine z_ast (ce' := cM cy ad (zup (enc al 0) 6 (3 + j) (al (8 + 0) j - 1)) ex) S hE hW (Nat.lt_of_lt_of_le (by decide) hn) cM_6 (3 + j) (nI_add 3 j) (by omega) (by decide) pM_6 (fun j h => cM_o h) dX4_stow_75 (fun H locs hW => ?_)
          rw [e_mk (by omega)] at hW
          refine lv_aload_n hx hb dX4_stow_76 rfl (lv_at hl 0 rfl) ?_
          refine z_get (C := RX4) (T := TX4) (N := 9) (ci := 4) S hE hW hi4 rfl (Nat.lt_of_lt_of_le (by decide) hn) cM_0 7 (by decide) rfl f22 (v := .ref (ad 33)) rfl dX4_stow_77 ?_
          refine lv_iconst (v := 3) hx hb dX4_stow_80 (by decide) ?_
          refine lv_iload_n hx hb dX4_stow_81 rfl (lv_at hl 1 rfl) ?_
          refine lv_imul hx hb dX4_stow_82 ?_
          refine lv_iload_n hx hb dX4_stow_83 rfl (lv_at hl 3 rfl) ?_
          refine lv_if_eq (tgt := 91) hx hb dX4_stow_84 (by decide) (fun c84 => ?_) (fun c84 => ?_)
          · refine lv_iconst (v := 2) hx hb dX4_stow_91 (by decide) ?_
            refine lv_iadd hx hb dX4_stow_92 ?_
            refine lv_dup2_11 hx hb dX4_stow_93 rfl rfl ?_
            refine z_ald S hE hW (Nat.lt_of_lt_of_le (by decide) hn) cM_5 (3 * i + 2) (z_mul3' i 2) (by omega) (by decide) (v := al (24 + i) 2) (((r_f (b := i) (k := 2) (by omega) (by decide))).trans (congrFun (zup_o (by omega)) 2)) dX4_stow_94 ?_
            refine lv_iload_n hx hb dX4_stow_95 rfl (lv_at hl 2 rfl) ?_
            refine z_pS (As := [.int (nI j)]) (rest := [.int (al (24 + i) 2), .int ((3 * nI i) + 2), .ref (ad 33)]) S hE hW (cX4_stowed_ok l (nI j)) (va_cwS 1 hts gX4_stow_X4_stowed rfl rfl rfl (by decide +kernel) ⟨Nat.le_of_ble_eq_true rfl, Nat.le_of_ble_eq_true rfl⟩) rfl hl.1 rfl (Nat.le_of_ble_eq_true rfl) dX4_stow_96 ⟨Nat.le_of_ble_eq_true rfl, Nat.le_of_ble_eq_true rfl⟩ (fun H locs hW => ?_)
            refine lv_iadd hx hb dX4_stow_99 ?_
            refine z_ast (ce' := cM cy ad (zup (enc (zup al (8 + 0) j (al (8 + 0) j - 1)) 0) 5 (3 * i + 2) (al (24 + i) 2 + stw (nI j))) ex) S hE hW (Nat.lt_of_lt_of_le (by decide) hn) cM_5 (3 * i + 2) (z_mul3' i 2) (by omega) (by decide) pM_5 (fun j h => cM_o h) dX4_stow_100 (fun H locs hW => ?_)
            rw [e_f (by omega) (by decide)] at hW
            refine lv_aload_n hx hb dX4_stow_101 rfl (lv_at hl 0 rfl) ?_
            refine lv_iload_n hx hb dX4_stow_102 rfl (lv_at hl 1 rfl) ?_
            refine lv_iconst (v := 1) hx hb dX4_stow_103 (by decide) ?_
            refine z_cVi (As := [.int (nI i), .int 1]) (rest := []) (k := 28) S hE hW (cX4_bo_ok l D n ad cy sa H.size hn (enc (zup (zup al (8 + 0) j (al (8 + 0) j - 1)) (24 + i) 2 (al (24 + i) 2 + stw (nI j))) 0) ex i (by omega) 1 (by omega)) (cwV 2 hts gX4_stow_X4_bo rfl rfl rfl (by decide +kernel) ⟨Nat.le_of_ble_eq_true rfl, Nat.le_of_ble_eq_true rfl⟩) (Nat.lt_of_lt_of_le (by decide) hn) cM_0 rfl rfl rfl hl.1 rfl (Nat.le_of_ble_eq_true rfl) dX4_stow_104 ⟨Nat.le_of_ble_eq_true rfl, Nat.le_of_ble_eq_true rfl⟩ (fun r _ H locs hp hW => ?_)
            subst hp
            refine z_top2 (y := (zup (zup al (8 + 0) j (al (8 + 0) j - 1)) (24 + i) 2 (al (24 + i) 2 + stw (nI j))) (24 + i) 1) (r_f (b := i) (k := 1) (by omega) (by decide)) ?_
            refine lv_aload_n hx hb dX4_stow_107 rfl (lv_at hl 0 rfl) ?_
            refine lv_iload_n hx hb dX4_stow_108 rfl (lv_at hl 1 rfl) ?_
            refine lv_iconst (v := 2) hx hb dX4_stow_109 (by decide) ?_
            refine z_cVi (As := [.int (nI i), .int 2]) (rest := [.int ((zup (zup al (8 + 0) j (al (8 + 0) j - 1)) (24 + i) 2 (al (24 + i) 2 + stw (nI j))) (24 + i) 1)]) (k := 28) S hE hW (cX4_bo_ok l D n ad cy sa H.size hn (enc (zup (zup al (8 + 0) j (al (8 + 0) j - 1)) (24 + i) 2 (al (24 + i) 2 + stw (nI j))) 0) ex i (by omega) 2 (by omega)) (cwV 2 hts gX4_stow_X4_bo rfl rfl rfl (by decide +kernel) ⟨Nat.le_of_ble_eq_true rfl, Nat.le_of_ble_eq_true rfl⟩) (Nat.lt_of_lt_of_le (by decide) hn) cM_0 rfl rfl rfl hl.1 rfl (Nat.le_of_ble_eq_true rfl) dX4_stow_110 ⟨Nat.le_of_ble_eq_true rfl, Nat.le_of_ble_eq_true rfl⟩ (fun r _ H locs hp hW => ?_)
            subst hp
            refine z_top2 (y := (zup (zup al (8 + 0) j (al (8 + 0) j - 1)) (24 + i) 2 (al (24 + i) 2 + stw (nI j))) (24 + i) 2) (r_f (b := i) (k := 2) (by omega) (by decide)) ?_
            refine lv_isub hx hb dX4_stow_113 ?_
            have hk9 : k_stow al (nI i) (nI j) z = 0 := by unfold k_stow; simp only [ix_nI (show i < 2 ^ 31 by omega), ix_nI (show j < 2 ^ 31 by omega)]; rw [if_neg (fun h => h c10), if_neg (fun h => h c19), if_neg (fun h => h hsk2), if_neg (fun h => h hrm)]
            exact ze_i S hW hr hlk () (congrArg (fun z => cM cy ad z ex) (by rw [hk9, if_pos rfl]; exact congrArg (fun z => enc z 0) (by unfold u_stow; rw [ix_nI (show i < 2 ^ 31 by omega), ix_nI (show j < 2 ^ 31 by omega), if_pos c84]))) (by rw [hk9, if_pos rfl] <;> exact (by unfold v_stow u_stow; rw [ix_nI (show i < 2 ^ 31 by omega), ix_nI (show j < 2 ^ 31 by omega), if_pos c84])) (Nat.le_of_ble_eq_true rfl) (Nat.le_of_ble_eq_true rfl) dX4_stow_114
          · refine lv_iconst (v := 1) hx hb dX4_stow_87 (by decide) ?_
            refine lv_goto (tgt := 92) hx hb dX4_stow_88 (by decide) ?_
            refine lv_iadd hx hb dX4_stow_92 ?_
            refine lv_dup2_11 hx hb dX4_stow_93 rfl rfl ?_
            refine z_ald S hE hW (Nat.lt_of_lt_of_le (by decide) hn) cM_5 (3 * i + 1) (z_mul3' i 1) (by omega) (by decide) (v := al (24 + i) 1) (((r_f (b := i) (k := 1) (by omega) (by decide))).trans (congrFun (zup_o (by omega)) 1)) dX4_stow_94 ?_
            refine lv_iload_n hx hb dX4_stow_95 rfl (lv_at hl 2 rfl) ?_
            refine z_pS (As := [.int (nI j)]) (rest := [.int (al (24 + i) 1), .int ((3 * nI i) + 1), .ref (ad 33)]) S hE hW (cX4_stowed_ok l (nI j)) (va_cwS 1 hts gX4_stow_X4_stowed rfl rfl rfl (by decide +kernel) ⟨Nat.le_of_ble_eq_true rfl, Nat.le_of_ble_eq_true rfl⟩) rfl hl.1 rfl (Nat.le_of_ble_eq_true rfl) dX4_stow_96 ⟨Nat.le_of_ble_eq_true rfl, Nat.le_of_ble_eq_true rfl⟩ (fun H locs hW => ?_)
            refine lv_iadd hx hb dX4_stow_99 ?_
            refine z_ast (ce' := cM cy ad (zup (enc (zup al (8 + 0) j (al (8 + 0) j - 1)) 0) 5 (3 * i + 1) (al (24 + i) 1 + stw (nI j))) ex) S hE hW (Nat.lt_of_lt_of_le (by decide) hn) cM_5 (3 * i + 1) (z_mul3' i 1) (by omega) (by decide) pM_5 (fun j h => cM_o h) dX4_stow_100 (fun H locs hW => ?_)
            rw [e_f (by omega) (by decide)] at hW
            refine lv_aload_n hx hb dX4_stow_101 rfl (lv_at hl 0 rfl) ?_
            refine lv_iload_n hx hb dX4_stow_102 rfl (lv_at hl 1 rfl) ?_
            refine lv_iconst (v := 1) hx hb dX4_stow_103 (by decide) ?_
            refine z_cVi (As := [.int (nI i), .int 1]) (rest := []) (k := 28) S hE hW (cX4_bo_ok l D n ad cy sa H.size hn (enc (zup (zup al (8 + 0) j (al (8 + 0) j - 1)) (24 + i) 1 (al (24 + i) 1 + stw (nI j))) 0) ex i (by omega) 1 (by omega)) (cwV 2 hts gX4_stow_X4_bo rfl rfl rfl (by decide +kernel) ⟨Nat.le_of_ble_eq_true rfl, Nat.le_of_ble_eq_true rfl⟩) (Nat.lt_of_lt_of_le (by decide) hn) cM_0 rfl rfl rfl hl.1 rfl (Nat.le_of_ble_eq_true rfl) dX4_stow_104 ⟨Nat.le_of_ble_eq_true rfl, Nat.le_of_ble_eq_true rfl⟩ (fun r _ H locs hp hW => ?_)
            subst hp
            refine z_top2 (y := (zup (zup al (8 + 0) j (al (8 + 0) j - 1)) (24 + i) 1 (al (24 + i) 1 + stw (nI j))) (24 + i) 1) (r_f (b := i) (k := 1) (by omega) (by decide)) ?_
            refine lv_aload_n hx hb dX4_stow_107 rfl (lv_at hl 0 rfl) ?_
            refine lv_iload_n hx hb dX4_stow_108 rfl (lv_at hl 1 rfl) ?_
            refine lv_iconst (v := 2) hx hb dX4_stow_109 (by decide) ?_
            refine z_cVi (As := [.int (nI i), .int 2]) (rest := [.int ((zup (zup al (8 + 0) j (al (8 + 0) j - 1)) (24 + i) 1 (al (24 + i) 1 + stw (nI j))) (24 + i) 1)]) (k := 28) S hE hW (cX4_bo_ok l D n ad cy sa H.size hn (enc (zup (zup al (8 + 0) j (al (8 + 0) j - 1)) (24 + i) 1 (al (24 + i) 1 + stw (nI j))) 0) ex i (by omega) 2 (by omega)) (cwV 2 hts gX4_stow_X4_bo rfl rfl rfl (by decide +kernel) ⟨Nat.le_of_ble_eq_true rfl, Nat.le_of_ble_eq_true rfl⟩) (Nat.lt_of_lt_of_le (by decide) hn) cM_0 rfl rfl rfl hl.1 rfl (Nat.le_of_ble_eq_true rfl) dX4_stow_110 ⟨Nat.le_of_ble_eq_true rfl, Nat.le_of_ble_eq_true rfl⟩ (fun r _ H locs hp hW => ?_)
            subst hp
            refine z_top2 (y := (zup (zup al (8 + 0) j (al (8 + 0) j - 1)) (24 + i) 1 (al (24 + i) 1 + stw (nI j))) (24 + i) 2) (r_f (b := i) (k := 2) (by omega) (by decide)) ?_
            refine lv_isub hx hb dX4_stow_113 ?_
            have hk9 : k_stow al (nI i) (nI j) z = 0 := by unfold k_stow; simp only [ix_nI (show i < 2 ^ 31 by omega), ix_nI (show j < 2 ^ 31 by omega)]; rw [if_neg (fun h => h c10), if_neg (fun h => h c19), if_neg (fun h => h hsk2), if_neg (fun h => h hrm)]
            exact ze_i S hW hr hlk () (congrArg (fun z => cM cy ad z ex) (by rw [hk9, if_pos rfl]; exact congrArg (fun z => enc z 0) (by unfold u_stow; rw [ix_nI (show i < 2 ^ 31 by omega), ix_nI (show j < 2 ^ 31 by omega), if_neg c84]))) (by rw [hk9, if_pos rfl] <;> exact (by unfold v_stow u_stow; rw [ix_nI (show i < 2 ^ 31 by omega), ix_nI (show j < 2 ^ 31 by omega), if_neg c84])) (Nat.le_of_ble_eq_true rfl) (Nat.le_of_ble_eq_true rfl) dX4_stow_114
        · have hrm : ¬ (stw (nI j) ≤ ((al (24 + i) 0 - al (24 + i) 1) - al (24 + i) 2)) := fun q => c55 ((z_roomE _ hL hf ht hft hL9).mpr q)
          refine lv_aload_n hx hb dX4_stow_58 rfl (lv_at hl 0 rfl) ?_
          refine lv_iconst (v := 2) hx hb dX4_stow_59 (by decide) ?_
          refine z_cVi (As := [.int 2]) (rest := []) (k := 28) S hE hW (cX4_fail_ok l D n ad cy sa H.size hn al 0 ex 2) (cwV 1 hts gX4_stow_X4_fail rfl rfl rfl (by decide +kernel) ⟨Nat.le_of_ble_eq_true rfl, Nat.le_of_ble_eq_true rfl⟩) (Nat.lt_of_lt_of_le (by decide) hn) cM_0 rfl rfl rfl hl.1 rfl (Nat.le_of_ble_eq_true rfl) dX4_stow_60 ⟨Nat.le_of_ble_eq_true rfl, Nat.le_of_ble_eq_true rfl⟩ (fun r _ H locs hp hW => ?_)
          subst hp
          have hk9 : k_stow al (nI i) (nI j) z = 2 := by unfold k_stow; simp only [ix_nI (show i < 2 ^ 31 by omega), ix_nI (show j < 2 ^ 31 by omega)]; rw [if_neg (fun h => h c10), if_neg (fun h => h c19), if_neg (fun h => h hsk2), if_pos hrm]
          exact ze_i S hW hr hlk () (congrArg (fun z => cM cy ad z ex) (by rw [hk9, if_neg (by decide)] <;> rfl)) (by rw [hk9, if_neg (by decide)]) (Nat.le_of_ble_eq_true rfl) (Nat.le_of_ble_eq_true rfl) dX4_stow_63
    · have c19 := zb_f c19
      refine lv_aload_n hx hb dX4_stow_22 rfl (lv_at hl 0 rfl) ?_
      refine lv_iconst (v := 1) hx hb dX4_stow_23 (by decide) ?_
      refine z_cVi (As := [.int 1]) (rest := []) (k := 28) S hE hW (cX4_fail_ok l D n ad cy sa H.size hn al 0 ex 1) (cwV 1 hts gX4_stow_X4_fail rfl rfl rfl (by decide +kernel) ⟨Nat.le_of_ble_eq_true rfl, Nat.le_of_ble_eq_true rfl⟩) (Nat.lt_of_lt_of_le (by decide) hn) cM_0 rfl rfl rfl hl.1 rfl (Nat.le_of_ble_eq_true rfl) dX4_stow_24 ⟨Nat.le_of_ble_eq_true rfl, Nat.le_of_ble_eq_true rfl⟩ (fun r _ H locs hp hW => ?_)
      subst hp
      have hk9 : k_stow al x y z = 1 := by unfold k_stow; rw [if_neg (fun h => h c10), if_pos c19]
      exact ze_i S hW hr hlk () (congrArg (fun z => cM cy ad z ex) (by rw [hk9, if_neg (by decide)] <;> rfl)) (by rw [hk9, if_neg (by decide)]) (Nat.le_of_ble_eq_true rfl) (Nat.le_of_ble_eq_true rfl) dX4_stow_27
set_option maxHeartbeats 4000000 in
set_option maxRecDepth 100000 in
theorem cX4_sail_ok (l : Launch) (D : va_G) (n : Nat) (ad cy sa : Nat → Nat) (sz : Nat) (hn : 35 ≤ n) (al : Nat → Nat → Int32) (th : Int32) (ex : Nat → va_E) (x : Int32) (B : Nat) (hB : al 0 6 = nI B) (hB4 : B ≤ 4) : Met l yX4_sail wsX4_sail ({ frames := 3, cells := 0, slots := 0, locals := 102 }) (PW D n ad cy sa sz (cM cy ad (enc al th) ex) [.ref (ad 28), .int x]) (QDi D n ad sz (if k_sail al x = 0 then v_sail al x else 0) (cM cy ad (enc (if k_sail al x = 0 then u_sail al x else al) (nI (k_sail al x))) ex)) 0 0 (Acc n ad sz) := by
  refine zs_met (cc := cX4_sail) (maxL := 3) (ret := (some .int)) (own := RX4) (by decide) rfl rfl (Nat.le_of_ble_eq_true rfl) ?_
  intro p e s m args below meth c ls S hE hW hr hlk hsz hav hl
  subst hsz
  have hx := S.1
  have hb := S.2.1
  have hown := S.2.2.2.1
  have hts := S.2.2.2.2
  have hl : lv_has ls 3 [(0, .ref (ad 28)), (1, .int x)] := hl
  have f28 := hts (.fieldLink RX4 28 "PumiceSledgeModel" "thrown" "I") (by decide +kernel)
  have hi4 : ∀ w ∈ wsX40, w ∈ wsX4_sail := by decide +kernel
  have f22 := hts (.fieldLink RX4 22 "PumiceSledgeModel" "fleet" "[I") (by decide +kernel)
  have f25 := hts (.fieldLink RX4 25 "PumiceSledgeModel" "numbers" "[I") (by decide +kernel)
  refine lv_aload_n hx hb dX4_sail_0 rfl (lv_at hl 0 rfl) ?_
  refine lv_iconst (v := 0) hx hb dX4_sail_1 (by decide) ?_
  refine z_put (ce' := cM cy ad (zup (enc al th) 0 0 0) ex) (C := RX4) (T := TX4) (N := 9) (ci := 4) S hE hW hi4 tyX4 tyX4_ok nmX4 rfl (Nat.lt_of_lt_of_le (by decide) hn) cM_0 0 (by decide) rfl f28 rfl rfl (Nat.le_of_ble_eq_true rfl) (pM_0 (by decide)) (fun j h => cM_o h) dX4_sail_2 (fun H locs hW => ?_)
  rw [e_th] at hW
  refine lv_aload_n hx hb dX4_sail_5 rfl (lv_at hl 0 rfl) ?_
  refine lv_iload_n hx hb dX4_sail_6 rfl (lv_at hl 1 rfl) ?_
  refine z_cVi (As := [.int x]) (rest := []) (k := 28) S hE hW (cX4_isBoat_ok l D n ad cy sa H.size hn al 0 ex x B (hB) hB4) (cwV 1 hts gX4_sail_X4_isBoat rfl rfl rfl (by decide +kernel) ⟨Nat.le_of_ble_eq_true rfl, Nat.le_of_ble_eq_true rfl⟩) (Nat.lt_of_lt_of_le (by decide) hn) cM_0 rfl rfl rfl hl.1 rfl (Nat.le_of_ble_eq_true rfl) dX4_sail_7 ⟨Nat.le_of_ble_eq_true rfl, Nat.le_of_ble_eq_true rfl⟩ (fun r _ H locs hp hW => ?_)
  subst hp
  refine lv_if_ne (tgt := 19) hx hb dX4_sail_10 (by decide) (fun c10 => ?_) (fun c10 => ?_)
  · have c10 := zb_t c10
    obtain ⟨i, hi, rfl⟩ := zS_ex hB (by omega) c10
    refine lv_aload_n hx hb dX4_sail_19 rfl (lv_at hl 0 rfl) ?_
    refine lv_iload_n hx hb dX4_sail_20 rfl (lv_at hl 1 rfl) ?_
    refine z_cVi (As := [.int (nI i)]) (rest := []) (k := 28) S hE hW (cX4_canSail_ok l D n ad cy sa H.size hn al 0 ex i (by omega)) (cwV 1 hts gX4_sail_X4_canSail rfl rfl rfl (by decide +kernel) ⟨Nat.le_of_ble_eq_true rfl, Nat.le_of_ble_eq_true rfl⟩) (Nat.lt_of_lt_of_le (by decide) hn) cM_0 rfl rfl rfl hl.1 rfl (Nat.le_of_ble_eq_true rfl) dX4_sail_21 ⟨Nat.le_of_ble_eq_true rfl, Nat.le_of_ble_eq_true rfl⟩ (fun r _ H locs hp hW => ?_)
    subst hp
    refine lv_if_ne (tgt := 33) hx hb dX4_sail_24 (by decide) (fun c24 => ?_) (fun c24 => ?_)
    · have c24 := zb_t c24
      refine lv_iconst (v := 3) hx hb dX4_sail_33 (by decide) ?_
      refine lv_aload_n hx hb dX4_sail_34 rfl (lv_at hl 0 rfl) ?_
      refine lv_iload_n hx hb dX4_sail_35 rfl (lv_at hl 1 rfl) ?_
      refine z_cVi (As := [.int (nI i)]) (rest := [.int 3]) (k := 28) S hE hW (cX4_all_ok l D n ad cy sa H.size hn al 0 ex i (by omega)) (cwV 1 hts gX4_sail_X4_all rfl rfl rfl (by decide +kernel) ⟨Nat.le_of_ble_eq_true rfl, Nat.le_of_ble_eq_true rfl⟩) (Nat.lt_of_lt_of_le (by decide) hn) cM_0 rfl rfl rfl hl.1 rfl (Nat.le_of_ble_eq_true rfl) dX4_sail_36 ⟨Nat.le_of_ble_eq_true rfl, Nat.le_of_ble_eq_true rfl⟩ (fun r _ H locs hp hW => ?_)
      subst hp
      refine lv_bipush (v := 10) hx hb dX4_sail_39 (by decide) ?_
      refine lv_idiv hx hb dX4_sail_41 (by decide) ?_
      refine lv_imul hx hb dX4_sail_42 ?_
      refine lv_istore_n (lv' := [(2, .int (3 * ((al (24 + i) 1 + al (24 + i) 2) / 10))), (0, .ref (ad 28)), (1, .int (nI i))]) hx hb dX4_sail_43 rfl hl (by decide) rfl (fun ls hl => ?_)
      refine lv_aload_n hx hb dX4_sail_44 rfl (lv_at hl 1 rfl) ?_
      refine z_get (C := RX4) (T := TX4) (N := 9) (ci := 4) S hE hW hi4 rfl (Nat.lt_of_lt_of_le (by decide) hn) cM_0 7 (by decide) rfl f22 (v := .ref (ad 33)) rfl dX4_sail_45 ?_
      refine lv_iconst (v := 3) hx hb dX4_sail_48 (by decide) ?_
      refine lv_iload_n hx hb dX4_sail_49 rfl (lv_at hl 2 rfl) ?_
      refine lv_imul hx hb dX4_sail_50 ?_
      refine lv_iconst (v := 1) hx hb dX4_sail_51 (by decide) ?_
      refine lv_iadd hx hb dX4_sail_52 ?_
      refine lv_iconst (v := 0) hx hb dX4_sail_53 (by decide) ?_
      refine z_ast (ce' := cM cy ad (zup (enc al 0) 5 (3 * i + 1) 0) ex) S hE hW (Nat.lt_of_lt_of_le (by decide) hn) cM_5 (3 * i + 1) (z_mul3' i 1) (by omega) (by decide) pM_5 (fun j h => cM_o h) dX4_sail_54 (fun H locs hW => ?_)
      rw [e_f (by omega) (by decide)] at hW
      refine lv_aload_n hx hb dX4_sail_55 rfl (lv_at hl 1 rfl) ?_
      refine z_get (C := RX4) (T := TX4) (N := 9) (ci := 4) S hE hW hi4 rfl (Nat.lt_of_lt_of_le (by decide) hn) cM_0 7 (by decide) rfl f22 (v := .ref (ad 33)) rfl dX4_sail_56 ?_
      refine lv_iconst (v := 3) hx hb dX4_sail_59 (by decide) ?_
      refine lv_iload_n hx hb dX4_sail_60 rfl (lv_at hl 2 rfl) ?_
      refine lv_imul hx hb dX4_sail_61 ?_
      refine lv_iconst (v := 2) hx hb dX4_sail_62 (by decide) ?_
      refine lv_iadd hx hb dX4_sail_63 ?_
      refine lv_iconst (v := 0) hx hb dX4_sail_64 (by decide) ?_
      refine z_ast (ce' := cM cy ad (zup (enc (zup al (24 + i) 1 0) 0) 5 (3 * i + 2) 0) ex) S hE hW (Nat.lt_of_lt_of_le (by decide) hn) cM_5 (3 * i + 2) (z_mul3' i 2) (by omega) (by decide) pM_5 (fun j h => cM_o h) dX4_sail_65 (fun H locs hW => ?_)
      rw [e_f (by omega) (by decide)] at hW
      refine lv_aload_n hx hb dX4_sail_66 rfl (lv_at hl 1 rfl) ?_
      refine z_get (C := RX4) (T := TX4) (N := 9) (ci := 4) S hE hW hi4 rfl (Nat.lt_of_lt_of_le (by decide) hn) cM_0 8 (by decide) rfl f25 (v := .ref (ad 34)) rfl dX4_sail_67 ?_
      refine lv_iconst (v := 1) hx hb dX4_sail_70 (by decide) ?_
      refine lv_dup2_11 hx hb dX4_sail_71 rfl rfl ?_
      refine z_ald S hE hW (Nat.lt_of_lt_of_le (by decide) hn) cM_6 1 rfl (by decide) (by decide) (v := al 0 9) ((r_m1).trans ((congrFun (zup_o (by omega)) 9).trans (congrFun (zup_o (by omega)) 9))) dX4_sail_72 ?_
      refine lv_iload_n hx hb dX4_sail_73 rfl (lv_at hl 0 rfl) ?_
      refine lv_iadd hx hb dX4_sail_74 ?_
      refine z_ast (ce' := cM cy ad (zup (enc (zup (zup al (24 + i) 1 0) (24 + i) 2 0) 0) 6 1 (al 0 9 + (3 * ((al (24 + i) 1 + al (24 + i) 2) / 10)))) ex) S hE hW (Nat.lt_of_lt_of_le (by decide) hn) cM_6 1 rfl (by decide) (by decide) pM_6 (fun j h => cM_o h) dX4_sail_75 (fun H locs hW => ?_)
      rw [e_m1] at hW
      refine lv_iload_n hx hb dX4_sail_76 rfl (lv_at hl 0 rfl) ?_
      have hk9 : k_sail al (nI i) = 0 := by unfold k_sail; simp only [ix_nI (show i < 2 ^ 31 by omega)]; rw [if_neg (fun h => h c10), if_neg (fun h => h c24)]
      exact ze_i S hW hr hlk () (congrArg (fun z => cM cy ad z ex) (by rw [hk9, if_pos rfl]; exact congrArg (fun z => enc z 0) (by unfold u_sail; rw [ix_nI (show i < 2 ^ 31 by omega), Int32.mul_comm 3]))) (by rw [hk9, if_pos rfl] <;> exact (by unfold v_sail; rw [ix_nI (show i < 2 ^ 31 by omega), Int32.mul_comm])) (Nat.le_of_ble_eq_true rfl) (Nat.le_of_ble_eq_true rfl) dX4_sail_77
    · have c24 := zb_f c24
      refine lv_aload_n hx hb dX4_sail_27 rfl (lv_at hl 0 rfl) ?_
      refine lv_iconst (v := 2) hx hb dX4_sail_28 (by decide) ?_
      refine z_cVi (As := [.int 2]) (rest := []) (k := 28) S hE hW (cX4_fail_ok l D n ad cy sa H.size hn al 0 ex 2) (cwV 1 hts gX4_sail_X4_fail rfl rfl rfl (by decide +kernel) ⟨Nat.le_of_ble_eq_true rfl, Nat.le_of_ble_eq_true rfl⟩) (Nat.lt_of_lt_of_le (by decide) hn) cM_0 rfl rfl rfl hl.1 rfl (Nat.le_of_ble_eq_true rfl) dX4_sail_29 ⟨Nat.le_of_ble_eq_true rfl, Nat.le_of_ble_eq_true rfl⟩ (fun r _ H locs hp hW => ?_)
      subst hp
      have hk9 : k_sail al (nI i) = 2 := by unfold k_sail; simp only [ix_nI (show i < 2 ^ 31 by omega)]; rw [if_neg (fun h => h c10), if_pos c24]
      exact ze_i S hW hr hlk () (congrArg (fun z => cM cy ad z ex) (by rw [hk9, if_neg (by decide)] <;> rfl)) (by rw [hk9, if_neg (by decide)]) (Nat.le_of_ble_eq_true rfl) (Nat.le_of_ble_eq_true rfl) dX4_sail_32
  · have c10 := zb_f c10
    refine lv_aload_n hx hb dX4_sail_13 rfl (lv_at hl 0 rfl) ?_
    refine lv_iconst (v := 1) hx hb dX4_sail_14 (by decide) ?_
    refine z_cVi (As := [.int 1]) (rest := []) (k := 28) S hE hW (cX4_fail_ok l D n ad cy sa H.size hn al 0 ex 1) (cwV 1 hts gX4_sail_X4_fail rfl rfl rfl (by decide +kernel) ⟨Nat.le_of_ble_eq_true rfl, Nat.le_of_ble_eq_true rfl⟩) (Nat.lt_of_lt_of_le (by decide) hn) cM_0 rfl rfl rfl hl.1 rfl (Nat.le_of_ble_eq_true rfl) dX4_sail_15 ⟨Nat.le_of_ble_eq_true rfl, Nat.le_of_ble_eq_true rfl⟩ (fun r _ H locs hp hW => ?_)
    subst hp
    have hk9 : k_sail al x = 1 := by unfold k_sail; rw [if_pos c10]
    exact ze_i S hW hr hlk () (congrArg (fun z => cM cy ad z ex) (by rw [hk9, if_neg (by decide)] <;> rfl)) (by rw [hk9, if_neg (by decide)]) (Nat.le_of_ble_eq_true rfl) (Nat.le_of_ble_eq_true rfl) dX4_sail_18
set_option maxHeartbeats 4000000 in
set_option maxRecDepth 100000 in
theorem cX4_layer_ok (l : Launch) (D : va_G) (n : Nat) (ad cy sa : Nat → Nat) (sz : Nat) (hn : 35 ≤ n) (al : Nat → Nat → Int32) (th : Int32) (ex : Nat → va_E) (x : Int32) (y : Int32)  : Met l yX4_layer wsX4_layer ({ frames := 2, cells := 0, slots := 0, locals := 42 }) (PW D n ad cy sa sz (cM cy ad (enc al th) ex) [.ref (ad 28), .int x, .int y]) (QDi D n ad sz (if k_layer al x y = 0 then v_layer al x y else 0) (cM cy ad (enc al (nI (k_layer al x y))) ex)) 0 0 (Acc n ad sz) := by
  refine zs_met (cc := cX4_layer) (maxL := 3) (ret := (some .int)) (own := RX4) (by decide) rfl rfl (Nat.le_of_ble_eq_true rfl) ?_
  intro p e s m args below meth c ls S hE hW hr hlk hsz hav hl
  subst hsz
  have hx := S.1
  have hb := S.2.1
  have hown := S.2.2.2.1
  have hts := S.2.2.2.2
  have hl : lv_has ls 3 [(0, .ref (ad 28)), (1, .int x), (2, .int y)] := hl
  have f28 := hts (.fieldLink RX4 28 "PumiceSledgeModel" "thrown" "I") (by decide +kernel)
  have hi4 : ∀ w ∈ wsX40, w ∈ wsX4_layer := by decide +kernel
  refine lv_aload_n hx hb dX4_layer_0 rfl (lv_at hl 0 rfl) ?_
  refine lv_iconst (v := 0) hx hb dX4_layer_1 (by decide) ?_
  refine z_put (ce' := cM cy ad (zup (enc al th) 0 0 0) ex) (C := RX4) (T := TX4) (N := 9) (ci := 4) S hE hW hi4 tyX4 tyX4_ok nmX4 rfl (Nat.lt_of_lt_of_le (by decide) hn) cM_0 0 (by decide) rfl f28 rfl rfl (Nat.le_of_ble_eq_true rfl) (pM_0 (by decide)) (fun j h => cM_o h) dX4_layer_2 (fun H locs hW => ?_)
  rw [e_th] at hW
  refine lv_iload_n hx hb dX4_layer_5 rfl (lv_at hl 1 rfl) ?_
  refine z_pS (As := [.int x]) (rest := []) S hE hW (cX4_isLayer_ok l x) (va_cwS 1 hts gX4_layer_X4_isLayer rfl rfl rfl (by decide +kernel) ⟨Nat.le_of_ble_eq_true rfl, Nat.le_of_ble_eq_true rfl⟩) rfl hl.1 rfl (Nat.le_of_ble_eq_true rfl) dX4_layer_6 ⟨Nat.le_of_ble_eq_true rfl, Nat.le_of_ble_eq_true rfl⟩ (fun H locs hW => ?_)
  refine lv_if_eq (tgt := 30) hx hb dX4_layer_9 (by decide) (fun c9 => ?_) (fun c9 => ?_)
  · have c9 := zb_f c9
    refine lv_aload_n hx hb dX4_layer_30 rfl (lv_at hl 0 rfl) ?_
    refine lv_iconst (v := 1) hx hb dX4_layer_31 (by decide) ?_
    refine z_cVi (As := [.int 1]) (rest := []) (k := 28) S hE hW (cX4_fail_ok l D n ad cy sa H.size hn al 0 ex 1) (cwV 1 hts gX4_layer_X4_fail rfl rfl rfl (by decide +kernel) ⟨Nat.le_of_ble_eq_true rfl, Nat.le_of_ble_eq_true rfl⟩) (Nat.lt_of_lt_of_le (by decide) hn) cM_0 rfl rfl rfl hl.1 rfl (Nat.le_of_ble_eq_true rfl) dX4_layer_32 ⟨Nat.le_of_ble_eq_true rfl, Nat.le_of_ble_eq_true rfl⟩ (fun r _ H locs hp hW => ?_)
    subst hp
    have hk9 : k_layer al x y = 1 := by unfold k_layer; rw [if_pos c9]
    exact ze_i S hW hr hlk () (congrArg (fun z => cM cy ad z ex) (by rw [hk9] <;> rfl)) (by rw [hk9, if_neg (by decide)]) (Nat.le_of_ble_eq_true rfl) (Nat.le_of_ble_eq_true rfl) dX4_layer_35
  · have c9 := zb_t c9
    refine lv_iload_n hx hb dX4_layer_12 rfl (lv_at hl 2 rfl) ?_
    refine lv_iconst (v := 0) hx hb dX4_layer_13 (by decide) ?_
    refine lv_iconst (v := 3) hx hb dX4_layer_14 (by decide) ?_
    refine z_pS (As := [.int y, .int 0, .int 3]) (rest := []) S hE hW (cX4_isIn_ok l y 0 3) (va_cwS 3 hts gX4_layer_X4_isIn rfl rfl rfl (by decide +kernel) ⟨Nat.le_of_ble_eq_true rfl, Nat.le_of_ble_eq_true rfl⟩) rfl hl.1 rfl (Nat.le_of_ble_eq_true rfl) dX4_layer_15 ⟨Nat.le_of_ble_eq_true rfl, Nat.le_of_ble_eq_true rfl⟩ (fun H locs hW => ?_)
    refine lv_if_eq (tgt := 30) hx hb dX4_layer_18 (by decide) (fun c18 => ?_) (fun c18 => ?_)
    · have c18 := zb_f c18
      refine lv_aload_n hx hb dX4_layer_30 rfl (lv_at hl 0 rfl) ?_
      refine lv_iconst (v := 1) hx hb dX4_layer_31 (by decide) ?_
      refine z_cVi (As := [.int 1]) (rest := []) (k := 28) S hE hW (cX4_fail_ok l D n ad cy sa H.size hn al 0 ex 1) (cwV 1 hts gX4_layer_X4_fail rfl rfl rfl (by decide +kernel) ⟨Nat.le_of_ble_eq_true rfl, Nat.le_of_ble_eq_true rfl⟩) (Nat.lt_of_lt_of_le (by decide) hn) cM_0 rfl rfl rfl hl.1 rfl (Nat.le_of_ble_eq_true rfl) dX4_layer_32 ⟨Nat.le_of_ble_eq_true rfl, Nat.le_of_ble_eq_true rfl⟩ (fun r _ H locs hp hW => ?_)
      subst hp
      have hk9 : k_layer al x y = 1 := by unfold k_layer; rw [if_neg (fun h => h c9), if_pos c18]
      exact ze_i S hW hr hlk () (congrArg (fun z => cM cy ad z ex) (by rw [hk9] <;> rfl)) (by rw [hk9, if_neg (by decide)]) (Nat.le_of_ble_eq_true rfl) (Nat.le_of_ble_eq_true rfl) dX4_layer_35
    · have c18 := zb_t c18
      obtain ⟨j, hj, rfl⟩ := zIn_ex 4 rfl (by decide) c9
      obtain ⟨q, hq, rfl⟩ := zIn_ex 3 rfl (by decide) c18
      refine lv_aload_n hx hb dX4_layer_21 rfl (lv_at hl 0 rfl) ?_
      refine lv_iload_n hx hb dX4_layer_22 rfl (lv_at hl 1 rfl) ?_
      refine lv_iload_n hx hb dX4_layer_23 rfl (lv_at hl 2 rfl) ?_
      refine z_cVi (As := [.int (nI j), .int (nI q)]) (rest := []) (k := 28) S hE hW (cX4_layerTold_ok l D n ad cy sa H.size hn al 0 ex j (by omega) q (by omega)) (cwV 2 hts gX4_layer_X4_layerTold rfl rfl rfl (by decide +kernel) ⟨Nat.le_of_ble_eq_true rfl, Nat.le_of_ble_eq_true rfl⟩) (Nat.lt_of_lt_of_le (by decide) hn) cM_0 rfl rfl rfl hl.1 rfl (Nat.le_of_ble_eq_true rfl) dX4_layer_24 ⟨Nat.le_of_ble_eq_true rfl, Nat.le_of_ble_eq_true rfl⟩ (fun r _ H locs hp hW => ?_)
      subst hp
      refine lv_goto (tgt := 35) hx hb dX4_layer_27 (by decide) ?_
      have hk9 : k_layer al (nI j) (nI q) = 0 := by unfold k_layer; rw [if_neg (fun h => h c9), if_neg (fun h => h c18)]
      exact ze_i S hW hr hlk () (congrArg (fun z => cM cy ad z ex) (by rw [hk9] <;> rfl)) (by rw [hk9, if_pos rfl] <;> exact (rfl)) (Nat.le_of_ble_eq_true rfl) (Nat.le_of_ble_eq_true rfl) dX4_layer_35
set_option maxHeartbeats 4000000 in
set_option maxRecDepth 100000 in
theorem cX4_told_ok (l : Launch) (D : va_G) (n : Nat) (ad cy sa : Nat → Nat) (sz : Nat) (hn : 35 ≤ n) (al : Nat → Nat → Int32) (th : Int32) (ex : Nat → va_E) (x : Int32) (y : Int32) (N : Nat) (hN : al 0 4 = nI N) (hN6 : N ≤ 6) (hrw : rowO al N) : Met l yX4_told wsX4_told ({ frames := 2, cells := 0, slots := 0, locals := 47 }) (PW D n ad cy sa sz (cM cy ad (enc al th) ex) [.ref (ad 28), .int x, .int y]) (QDi D n ad sz (if k_told al x y = 0 then v_told al x y else 0) (cM cy ad (enc al (nI (k_told al x y))) ex)) 0 0 (Acc n ad sz) := by
  refine zs_met (cc := cX4_told) (maxL := 3) (ret := (some .int)) (own := RX4) (by decide) rfl rfl (Nat.le_of_ble_eq_true rfl) ?_
  intro p e s m args below meth c ls S hE hW hr hlk hsz hav hl
  subst hsz
  have hx := S.1
  have hb := S.2.1
  have hown := S.2.2.2.1
  have hts := S.2.2.2.2
  have hl : lv_has ls 3 [(0, .ref (ad 28)), (1, .int x), (2, .int y)] := hl
  have f28 := hts (.fieldLink RX4 28 "PumiceSledgeModel" "thrown" "I") (by decide +kernel)
  have hi4 : ∀ w ∈ wsX40, w ∈ wsX4_told := by decide +kernel
  refine lv_aload_n hx hb dX4_told_0 rfl (lv_at hl 0 rfl) ?_
  refine lv_iconst (v := 0) hx hb dX4_told_1 (by decide) ?_
  refine z_put (ce' := cM cy ad (zup (enc al th) 0 0 0) ex) (C := RX4) (T := TX4) (N := 9) (ci := 4) S hE hW hi4 tyX4 tyX4_ok nmX4 rfl (Nat.lt_of_lt_of_le (by decide) hn) cM_0 0 (by decide) rfl f28 rfl rfl (Nat.le_of_ble_eq_true rfl) (pM_0 (by decide)) (fun j h => cM_o h) dX4_told_2 (fun H locs hW => ?_)
  rw [e_th] at hW
  refine lv_aload_n hx hb dX4_told_5 rfl (lv_at hl 0 rfl) ?_
  refine lv_iload_n hx hb dX4_told_6 rfl (lv_at hl 1 rfl) ?_
  refine z_cVi (As := [.int x]) (rest := []) (k := 28) S hE hW (cX4_isSledge_ok l D n ad cy sa H.size hn al 0 ex x N (hN) hN6) (cwV 1 hts gX4_told_X4_isSledge rfl rfl rfl (by decide +kernel) ⟨Nat.le_of_ble_eq_true rfl, Nat.le_of_ble_eq_true rfl⟩) (Nat.lt_of_lt_of_le (by decide) hn) cM_0 rfl rfl rfl hl.1 rfl (Nat.le_of_ble_eq_true rfl) dX4_told_7 ⟨Nat.le_of_ble_eq_true rfl, Nat.le_of_ble_eq_true rfl⟩ (fun r _ H locs hp hW => ?_)
  subst hp
  refine lv_if_eq (tgt := 31) hx hb dX4_told_10 (by decide) (fun c10 => ?_) (fun c10 => ?_)
  · have c10 := zb_f c10
    refine lv_aload_n hx hb dX4_told_31 rfl (lv_at hl 0 rfl) ?_
    refine lv_iconst (v := 1) hx hb dX4_told_32 (by decide) ?_
    refine z_cVi (As := [.int 1]) (rest := []) (k := 28) S hE hW (cX4_fail_ok l D n ad cy sa H.size hn al 0 ex 1) (cwV 1 hts gX4_told_X4_fail rfl rfl rfl (by decide +kernel) ⟨Nat.le_of_ble_eq_true rfl, Nat.le_of_ble_eq_true rfl⟩) (Nat.lt_of_lt_of_le (by decide) hn) cM_0 rfl rfl rfl hl.1 rfl (Nat.le_of_ble_eq_true rfl) dX4_told_33 ⟨Nat.le_of_ble_eq_true rfl, Nat.le_of_ble_eq_true rfl⟩ (fun r _ H locs hp hW => ?_)
    subst hp
    have hk9 : k_told al x y = 1 := by unfold k_told; rw [if_pos c10]
    exact ze_i S hW hr hlk () (congrArg (fun z => cM cy ad z ex) (by rw [hk9] <;> rfl)) (by rw [hk9, if_neg (by decide)]) (Nat.le_of_ble_eq_true rfl) (Nat.le_of_ble_eq_true rfl) dX4_told_36
  · have c10 := zb_t c10
    refine lv_iload_n hx hb dX4_told_13 rfl (lv_at hl 2 rfl) ?_
    refine lv_iconst (v := 0) hx hb dX4_told_14 (by decide) ?_
    refine lv_iconst (v := 5) hx hb dX4_told_15 (by decide) ?_
    refine z_pS (As := [.int y, .int 0, .int 5]) (rest := []) S hE hW (cX4_isIn_ok l y 0 5) (va_cwS 3 hts gX4_told_X4_isIn rfl rfl rfl (by decide +kernel) ⟨Nat.le_of_ble_eq_true rfl, Nat.le_of_ble_eq_true rfl⟩) rfl hl.1 rfl (Nat.le_of_ble_eq_true rfl) dX4_told_16 ⟨Nat.le_of_ble_eq_true rfl, Nat.le_of_ble_eq_true rfl⟩ (fun H locs hW => ?_)
    refine lv_if_eq (tgt := 31) hx hb dX4_told_19 (by decide) (fun c19 => ?_) (fun c19 => ?_)
    · have c19 := zb_f c19
      refine lv_aload_n hx hb dX4_told_31 rfl (lv_at hl 0 rfl) ?_
      refine lv_iconst (v := 1) hx hb dX4_told_32 (by decide) ?_
      refine z_cVi (As := [.int 1]) (rest := []) (k := 28) S hE hW (cX4_fail_ok l D n ad cy sa H.size hn al 0 ex 1) (cwV 1 hts gX4_told_X4_fail rfl rfl rfl (by decide +kernel) ⟨Nat.le_of_ble_eq_true rfl, Nat.le_of_ble_eq_true rfl⟩) (Nat.lt_of_lt_of_le (by decide) hn) cM_0 rfl rfl rfl hl.1 rfl (Nat.le_of_ble_eq_true rfl) dX4_told_33 ⟨Nat.le_of_ble_eq_true rfl, Nat.le_of_ble_eq_true rfl⟩ (fun r _ H locs hp hW => ?_)
      subst hp
      have hk9 : k_told al x y = 1 := by unfold k_told; rw [if_neg (fun h => h c10), if_pos c19]
      exact ze_i S hW hr hlk () (congrArg (fun z => cM cy ad z ex) (by rw [hk9] <;> rfl)) (by rw [hk9, if_neg (by decide)]) (Nat.le_of_ble_eq_true rfl) (Nat.le_of_ble_eq_true rfl) dX4_told_36
    · have c19 := zb_t c19
      obtain ⟨i, hi, rfl⟩ := zS_ex hN (by omega) c10
      obtain ⟨q, hq, rfl⟩ := zIn_ex 5 rfl (by decide) c19
      obtain ⟨o, a, ho, ha, hao, ho8⟩ := hrw i (by omega)
      refine lv_aload_n hx hb dX4_told_22 rfl (lv_at hl 0 rfl) ?_
      refine lv_iload_n hx hb dX4_told_23 rfl (lv_at hl 1 rfl) ?_
      refine lv_iload_n hx hb dX4_told_24 rfl (lv_at hl 2 rfl) ?_
      refine z_cVi (As := [.int (nI i), .int (nI q)]) (rest := []) (k := 28) S hE hW (cX4_sledgeTold_ok l D n ad cy sa H.size hn al 0 ex N (hN) hN6 i (by omega) a ha (by omega) q (by omega)) (cwV 2 hts gX4_told_X4_sledgeTold rfl rfl rfl (by decide +kernel) ⟨Nat.le_of_ble_eq_true rfl, Nat.le_of_ble_eq_true rfl⟩) (Nat.lt_of_lt_of_le (by decide) hn) cM_0 rfl rfl rfl hl.1 rfl (Nat.le_of_ble_eq_true rfl) dX4_told_25 ⟨Nat.le_of_ble_eq_true rfl, Nat.le_of_ble_eq_true rfl⟩ (fun r _ H locs hp hW => ?_)
      subst hp
      refine lv_goto (tgt := 36) hx hb dX4_told_28 (by decide) ?_
      have hk9 : k_told al (nI i) (nI q) = 0 := by unfold k_told; rw [if_neg (fun h => h c10), if_neg (fun h => h c19)]
      exact ze_i S hW hr hlk () (congrArg (fun z => cM cy ad z ex) (by rw [hk9] <;> rfl)) (by rw [hk9, if_pos rfl] <;> exact (rfl)) (Nat.le_of_ble_eq_true rfl) (Nat.le_of_ble_eq_true rfl) dX4_told_36
set_option maxHeartbeats 4000000 in
set_option maxRecDepth 100000 in
theorem cX4_boat_ok (l : Launch) (D : va_G) (n : Nat) (ad cy sa : Nat → Nat) (sz : Nat) (hn : 35 ≤ n) (al : Nat → Nat → Int32) (th : Int32) (ex : Nat → va_E) (x : Int32) (y : Int32) (B : Nat) (hB : al 0 6 = nI B) (hB4 : B ≤ 4) : Met l yX4_boat wsX4_boat ({ frames := 4, cells := 0, slots := 0, locals := 124 }) (PW D n ad cy sa sz (cM cy ad (enc al th) ex) [.ref (ad 28), .int x, .int y]) (QDi D n ad sz (if k_boat al x y = 0 then v_boat al x y else 0) (cM cy ad (enc al (nI (k_boat al x y))) ex)) 0 0 (Acc n ad sz) := by
  refine zs_met (cc := cX4_boat) (maxL := 3) (ret := (some .int)) (own := RX4) (by decide) rfl rfl (Nat.le_of_ble_eq_true rfl) ?_
  intro p e s m args below meth c ls S hE hW hr hlk hsz hav hl
  subst hsz
  have hx := S.1
  have hb := S.2.1
  have hown := S.2.2.2.1
  have hts := S.2.2.2.2
  have hl : lv_has ls 3 [(0, .ref (ad 28)), (1, .int x), (2, .int y)] := hl
  have f28 := hts (.fieldLink RX4 28 "PumiceSledgeModel" "thrown" "I") (by decide +kernel)
  have hi4 : ∀ w ∈ wsX40, w ∈ wsX4_boat := by decide +kernel
  refine lv_aload_n hx hb dX4_boat_0 rfl (lv_at hl 0 rfl) ?_
  refine lv_iconst (v := 0) hx hb dX4_boat_1 (by decide) ?_
  refine z_put (ce' := cM cy ad (zup (enc al th) 0 0 0) ex) (C := RX4) (T := TX4) (N := 9) (ci := 4) S hE hW hi4 tyX4 tyX4_ok nmX4 rfl (Nat.lt_of_lt_of_le (by decide) hn) cM_0 0 (by decide) rfl f28 rfl rfl (Nat.le_of_ble_eq_true rfl) (pM_0 (by decide)) (fun j h => cM_o h) dX4_boat_2 (fun H locs hW => ?_)
  rw [e_th] at hW
  refine lv_aload_n hx hb dX4_boat_5 rfl (lv_at hl 0 rfl) ?_
  refine lv_iload_n hx hb dX4_boat_6 rfl (lv_at hl 1 rfl) ?_
  refine z_cVi (As := [.int x]) (rest := []) (k := 28) S hE hW (cX4_isBoat_ok l D n ad cy sa H.size hn al 0 ex x B (hB) hB4) (cwV 1 hts gX4_boat_X4_isBoat rfl rfl rfl (by decide +kernel) ⟨Nat.le_of_ble_eq_true rfl, Nat.le_of_ble_eq_true rfl⟩) (Nat.lt_of_lt_of_le (by decide) hn) cM_0 rfl rfl rfl hl.1 rfl (Nat.le_of_ble_eq_true rfl) dX4_boat_7 ⟨Nat.le_of_ble_eq_true rfl, Nat.le_of_ble_eq_true rfl⟩ (fun r _ H locs hp hW => ?_)
  subst hp
  refine lv_if_eq (tgt := 32) hx hb dX4_boat_10 (by decide) (fun c10 => ?_) (fun c10 => ?_)
  · have c10 := zb_f c10
    refine lv_aload_n hx hb dX4_boat_32 rfl (lv_at hl 0 rfl) ?_
    refine lv_iconst (v := 1) hx hb dX4_boat_33 (by decide) ?_
    refine z_cVi (As := [.int 1]) (rest := []) (k := 28) S hE hW (cX4_fail_ok l D n ad cy sa H.size hn al 0 ex 1) (cwV 1 hts gX4_boat_X4_fail rfl rfl rfl (by decide +kernel) ⟨Nat.le_of_ble_eq_true rfl, Nat.le_of_ble_eq_true rfl⟩) (Nat.lt_of_lt_of_le (by decide) hn) cM_0 rfl rfl rfl hl.1 rfl (Nat.le_of_ble_eq_true rfl) dX4_boat_34 ⟨Nat.le_of_ble_eq_true rfl, Nat.le_of_ble_eq_true rfl⟩ (fun r _ H locs hp hW => ?_)
    subst hp
    have hk9 : k_boat al x y = 1 := by unfold k_boat; rw [if_pos c10]
    exact ze_i S hW hr hlk () (congrArg (fun z => cM cy ad z ex) (by rw [hk9] <;> rfl)) (by rw [hk9, if_neg (by decide)]) (Nat.le_of_ble_eq_true rfl) (Nat.le_of_ble_eq_true rfl) dX4_boat_37
  · have c10 := zb_t c10
    refine lv_iload_n hx hb dX4_boat_13 rfl (lv_at hl 2 rfl) ?_
    refine lv_iconst (v := 0) hx hb dX4_boat_14 (by decide) ?_
    refine lv_bipush (v := 6) hx hb dX4_boat_15 (by decide) ?_
    refine z_pS (As := [.int y, .int 0, .int 6]) (rest := []) S hE hW (cX4_isIn_ok l y 0 6) (va_cwS 3 hts gX4_boat_X4_isIn rfl rfl rfl (by decide +kernel) ⟨Nat.le_of_ble_eq_true rfl, Nat.le_of_ble_eq_true rfl⟩) rfl hl.1 rfl (Nat.le_of_ble_eq_true rfl) dX4_boat_17 ⟨Nat.le_of_ble_eq_true rfl, Nat.le_of_ble_eq_true rfl⟩ (fun H locs hW => ?_)
    refine lv_if_eq (tgt := 32) hx hb dX4_boat_20 (by decide) (fun c20 => ?_) (fun c20 => ?_)
    · have c20 := zb_f c20
      refine lv_aload_n hx hb dX4_boat_32 rfl (lv_at hl 0 rfl) ?_
      refine lv_iconst (v := 1) hx hb dX4_boat_33 (by decide) ?_
      refine z_cVi (As := [.int 1]) (rest := []) (k := 28) S hE hW (cX4_fail_ok l D n ad cy sa H.size hn al 0 ex 1) (cwV 1 hts gX4_boat_X4_fail rfl rfl rfl (by decide +kernel) ⟨Nat.le_of_ble_eq_true rfl, Nat.le_of_ble_eq_true rfl⟩) (Nat.lt_of_lt_of_le (by decide) hn) cM_0 rfl rfl rfl hl.1 rfl (Nat.le_of_ble_eq_true rfl) dX4_boat_34 ⟨Nat.le_of_ble_eq_true rfl, Nat.le_of_ble_eq_true rfl⟩ (fun r _ H locs hp hW => ?_)
      subst hp
      have hk9 : k_boat al x y = 1 := by unfold k_boat; rw [if_neg (fun h => h c10), if_pos c20]
      exact ze_i S hW hr hlk () (congrArg (fun z => cM cy ad z ex) (by rw [hk9] <;> rfl)) (by rw [hk9, if_neg (by decide)]) (Nat.le_of_ble_eq_true rfl) (Nat.le_of_ble_eq_true rfl) dX4_boat_37
    · have c20 := zb_t c20
      obtain ⟨i, hi, rfl⟩ := zS_ex hB (by omega) c10
      obtain ⟨q, hq, rfl⟩ := zIn_ex 6 rfl (by decide) c20
      refine lv_aload_n hx hb dX4_boat_23 rfl (lv_at hl 0 rfl) ?_
      refine lv_iload_n hx hb dX4_boat_24 rfl (lv_at hl 1 rfl) ?_
      refine lv_iload_n hx hb dX4_boat_25 rfl (lv_at hl 2 rfl) ?_
      refine z_cVi (As := [.int (nI i), .int (nI q)]) (rest := []) (k := 28) S hE hW (cX4_boatTold_ok l D n ad cy sa H.size hn al 0 ex i (by omega) q (by omega)) (cwV 2 hts gX4_boat_X4_boatTold rfl rfl rfl (by decide +kernel) ⟨Nat.le_of_ble_eq_true rfl, Nat.le_of_ble_eq_true rfl⟩) (Nat.lt_of_lt_of_le (by decide) hn) cM_0 rfl rfl rfl hl.1 rfl (Nat.le_of_ble_eq_true rfl) dX4_boat_26 ⟨Nat.le_of_ble_eq_true rfl, Nat.le_of_ble_eq_true rfl⟩ (fun r _ H locs hp hW => ?_)
      subst hp
      refine lv_goto (tgt := 37) hx hb dX4_boat_29 (by decide) ?_
      have hk9 : k_boat al (nI i) (nI q) = 0 := by unfold k_boat; rw [if_neg (fun h => h c10), if_neg (fun h => h c20)]
      exact ze_i S hW hr hlk () (congrArg (fun z => cM cy ad z ex) (by rw [hk9] <;> rfl)) (by rw [hk9, if_pos rfl] <;> exact (rfl)) (Nat.le_of_ble_eq_true rfl) (Nat.le_of_ble_eq_true rfl) dX4_boat_37
set_option maxHeartbeats 4000000 in
set_option maxRecDepth 100000 in
theorem cX4_beach_ok (l : Launch) (D : va_G) (n : Nat) (ad cy sa : Nat → Nat) (sz : Nat) (hn : 35 ≤ n) (al : Nat → Nat → Int32) (th : Int32) (ex : Nat → va_E) (x : Int32)  : Met l yX4_beach wsX4_beach ({ frames := 1, cells := 0, slots := 0, locals := 22 }) (PW D n ad cy sa sz (cM cy ad (enc al th) ex) [.ref (ad 28), .int x]) (QDi D n ad sz (if k_beach al x = 0 then v_beach al x else 0) (cM cy ad (enc al (nI (k_beach al x))) ex)) 0 0 (Acc n ad sz) := by
  refine zs_met (cc := cX4_beach) (maxL := 2) (ret := (some .int)) (own := RX4) (by decide) rfl rfl (Nat.le_of_ble_eq_true rfl) ?_
  intro p e s m args below meth c ls S hE hW hr hlk hsz hav hl
  subst hsz
  have hx := S.1
  have hb := S.2.1
  have hown := S.2.2.2.1
  have hts := S.2.2.2.2
  have hl : lv_has ls 2 [(0, .ref (ad 28)), (1, .int x)] := hl
  have f28 := hts (.fieldLink RX4 28 "PumiceSledgeModel" "thrown" "I") (by decide +kernel)
  have hi4 : ∀ w ∈ wsX40, w ∈ wsX4_beach := by decide +kernel
  have f25 := hts (.fieldLink RX4 25 "PumiceSledgeModel" "numbers" "[I") (by decide +kernel)
  refine lv_aload_n hx hb dX4_beach_0 rfl (lv_at hl 0 rfl) ?_
  refine lv_iconst (v := 0) hx hb dX4_beach_1 (by decide) ?_
  refine z_put (ce' := cM cy ad (zup (enc al th) 0 0 0) ex) (C := RX4) (T := TX4) (N := 9) (ci := 4) S hE hW hi4 tyX4 tyX4_ok nmX4 rfl (Nat.lt_of_lt_of_le (by decide) hn) cM_0 0 (by decide) rfl f28 rfl rfl (Nat.le_of_ble_eq_true rfl) (pM_0 (by decide)) (fun j h => cM_o h) dX4_beach_2 (fun H locs hW => ?_)
  rw [e_th] at hW
  refine lv_iload_n hx hb dX4_beach_5 rfl (lv_at hl 1 rfl) ?_
  refine lv_iconst (v := 0) hx hb dX4_beach_6 (by decide) ?_
  refine lv_iconst (v := 2) hx hb dX4_beach_7 (by decide) ?_
  refine z_pS (As := [.int x, .int 0, .int 2]) (rest := []) S hE hW (cX4_isIn_ok l x 0 2) (va_cwS 3 hts gX4_beach_X4_isIn rfl rfl rfl (by decide +kernel) ⟨Nat.le_of_ble_eq_true rfl, Nat.le_of_ble_eq_true rfl⟩) rfl hl.1 rfl (Nat.le_of_ble_eq_true rfl) dX4_beach_8 ⟨Nat.le_of_ble_eq_true rfl, Nat.le_of_ble_eq_true rfl⟩ (fun H locs hW => ?_)
  refine lv_if_eq (tgt := 25) hx hb dX4_beach_11 (by decide) (fun c11 => ?_) (fun c11 => ?_)
  · have c11 := zb_f c11
    refine lv_aload_n hx hb dX4_beach_25 rfl (lv_at hl 0 rfl) ?_
    refine lv_iconst (v := 1) hx hb dX4_beach_26 (by decide) ?_
    refine z_cVi (As := [.int 1]) (rest := []) (k := 28) S hE hW (cX4_fail_ok l D n ad cy sa H.size hn al 0 ex 1) (cwV 1 hts gX4_beach_X4_fail rfl rfl rfl (by decide +kernel) ⟨Nat.le_of_ble_eq_true rfl, Nat.le_of_ble_eq_true rfl⟩) (Nat.lt_of_lt_of_le (by decide) hn) cM_0 rfl rfl rfl hl.1 rfl (Nat.le_of_ble_eq_true rfl) dX4_beach_27 ⟨Nat.le_of_ble_eq_true rfl, Nat.le_of_ble_eq_true rfl⟩ (fun r _ H locs hp hW => ?_)
    subst hp
    have hk9 : k_beach al x = 1 := by unfold k_beach; rw [if_pos c11]
    exact ze_i S hW hr hlk () (congrArg (fun z => cM cy ad z ex) (by rw [hk9] <;> rfl)) (by rw [hk9, if_neg (by decide)]) (Nat.le_of_ble_eq_true rfl) (Nat.le_of_ble_eq_true rfl) dX4_beach_30
  · have c11 := zb_t c11
    obtain ⟨j, hj, rfl⟩ := zIn_ex 2 rfl (by decide) c11
    refine lv_aload_n hx hb dX4_beach_14 rfl (lv_at hl 0 rfl) ?_
    refine z_get (C := RX4) (T := TX4) (N := 9) (ci := 4) S hE hW hi4 rfl (Nat.lt_of_lt_of_le (by decide) hn) cM_0 8 (by decide) rfl f25 (v := .ref (ad 34)) rfl dX4_beach_15 ?_
    refine lv_iconst (v := 3) hx hb dX4_beach_18 (by decide) ?_
    refine lv_iload_n hx hb dX4_beach_19 rfl (lv_at hl 1 rfl) ?_
    refine lv_iadd hx hb dX4_beach_20 ?_
    refine z_ald S hE hW (Nat.lt_of_lt_of_le (by decide) hn) cM_6 (3 + j) (nI_add 3 j) (by omega) (by decide) (v := al (8 + 0) j) ((r_mk (k := j) (by omega))) dX4_beach_21 ?_
    refine lv_goto (tgt := 30) hx hb dX4_beach_22 (by decide) ?_
    have hk9 : k_beach al (nI j) = 0 := by unfold k_beach; rw [if_neg (fun h => h c11)]
    exact ze_i S hW hr hlk () (congrArg (fun z => cM cy ad z ex) (by rw [hk9] <;> rfl)) (by rw [hk9, if_pos rfl] <;> exact (by unfold v_beach; rw [ix_nI (show j < 2 ^ 31 by omega)])) (Nat.le_of_ble_eq_true rfl) (Nat.le_of_ble_eq_true rfl) dX4_beach_30
set_option maxHeartbeats 4000000 in
set_option maxRecDepth 100000 in
theorem cX4_count_ok (l : Launch) (D : va_G) (n : Nat) (ad cy sa : Nat → Nat) (sz : Nat) (hn : 35 ≤ n) (al : Nat → Nat → Int32) (th : Int32) (ex : Nat → va_E) (x : Int32) (N : Nat) (hN : al 0 4 = nI N) (hN6 : N ≤ 6) (h : Nat) (hh : al 0 8 = nI h) (hh3 : h < 2 ^ 31) : Met l yX4_count wsX4_count ({ frames := 3, cells := 0, slots := 0, locals := 70 }) (PW D n ad cy sa sz (cM cy ad (enc al th) ex) [.ref (ad 28), .int x]) (QDi D n ad sz (if k_count al x = 0 then v_count al x else 0) (cM cy ad (enc al (nI (k_count al x))) ex)) 0 0 (Acc n ad sz) := by
  refine zs_met (cc := cX4_count) (maxL := 2) (ret := (some .int)) (own := RX4) (by decide) rfl rfl (Nat.le_of_ble_eq_true rfl) ?_
  intro p e s m args below meth c ls S hE hW hr hlk hsz hav hl
  subst hsz
  have hx := S.1
  have hb := S.2.1
  have hown := S.2.2.2.1
  have hts := S.2.2.2.2
  have hl : lv_has ls 2 [(0, .ref (ad 28)), (1, .int x)] := hl
  have f28 := hts (.fieldLink RX4 28 "PumiceSledgeModel" "thrown" "I") (by decide +kernel)
  have hi4 : ∀ w ∈ wsX40, w ∈ wsX4_count := by decide +kernel
  refine lv_aload_n hx hb dX4_count_0 rfl (lv_at hl 0 rfl) ?_
  refine lv_iconst (v := 0) hx hb dX4_count_1 (by decide) ?_
  refine z_put (ce' := cM cy ad (zup (enc al th) 0 0 0) ex) (C := RX4) (T := TX4) (N := 9) (ci := 4) S hE hW hi4 tyX4 tyX4_ok nmX4 rfl (Nat.lt_of_lt_of_le (by decide) hn) cM_0 0 (by decide) rfl f28 rfl rfl (Nat.le_of_ble_eq_true rfl) (pM_0 (by decide)) (fun j h => cM_o h) dX4_count_2 (fun H locs hW => ?_)
  rw [e_th] at hW
  refine lv_iload_n hx hb dX4_count_5 rfl (lv_at hl 1 rfl) ?_
  refine lv_iconst (v := 0) hx hb dX4_count_6 (by decide) ?_
  refine lv_bipush (v := 8) hx hb dX4_count_7 (by decide) ?_
  refine z_pS (As := [.int x, .int 0, .int 8]) (rest := []) S hE hW (cX4_isIn_ok l x 0 8) (va_cwS 3 hts gX4_count_X4_isIn rfl rfl rfl (by decide +kernel) ⟨Nat.le_of_ble_eq_true rfl, Nat.le_of_ble_eq_true rfl⟩) rfl hl.1 rfl (Nat.le_of_ble_eq_true rfl) dX4_count_9 ⟨Nat.le_of_ble_eq_true rfl, Nat.le_of_ble_eq_true rfl⟩ (fun H locs hW => ?_)
  refine lv_if_eq (tgt := 23) hx hb dX4_count_12 (by decide) (fun c12 => ?_) (fun c12 => ?_)
  · have c12 := zb_f c12
    refine lv_aload_n hx hb dX4_count_23 rfl (lv_at hl 0 rfl) ?_
    refine lv_iconst (v := 1) hx hb dX4_count_24 (by decide) ?_
    refine z_cVi (As := [.int 1]) (rest := []) (k := 28) S hE hW (cX4_fail_ok l D n ad cy sa H.size hn al 0 ex 1) (cwV 1 hts gX4_count_X4_fail rfl rfl rfl (by decide +kernel) ⟨Nat.le_of_ble_eq_true rfl, Nat.le_of_ble_eq_true rfl⟩) (Nat.lt_of_lt_of_le (by decide) hn) cM_0 rfl rfl rfl hl.1 rfl (Nat.le_of_ble_eq_true rfl) dX4_count_25 ⟨Nat.le_of_ble_eq_true rfl, Nat.le_of_ble_eq_true rfl⟩ (fun r _ H locs hp hW => ?_)
    subst hp
    have hk9 : k_count al x = 1 := by unfold k_count; rw [if_pos c12]
    exact ze_i S hW hr hlk () (congrArg (fun z => cM cy ad z ex) (by rw [hk9] <;> rfl)) (by rw [hk9, if_neg (by decide)]) (Nat.le_of_ble_eq_true rfl) (Nat.le_of_ble_eq_true rfl) dX4_count_28
  · have c12 := zb_t c12
    obtain ⟨q, hq, rfl⟩ := zIn_ex 8 rfl (by decide) c12
    refine lv_aload_n hx hb dX4_count_15 rfl (lv_at hl 0 rfl) ?_
    refine lv_iload_n hx hb dX4_count_16 rfl (lv_at hl 1 rfl) ?_
    refine z_cVi (As := [.int (nI q)]) (rest := []) (k := 28) S hE hW (cX4_counted_ok l D n ad cy sa H.size hn al 0 ex N (hN) hN6 h (hh) hh3 q (by omega)) (cwV 1 hts gX4_count_X4_counted rfl rfl rfl (by decide +kernel) ⟨Nat.le_of_ble_eq_true rfl, Nat.le_of_ble_eq_true rfl⟩) (Nat.lt_of_lt_of_le (by decide) hn) cM_0 rfl rfl rfl hl.1 rfl (Nat.le_of_ble_eq_true rfl) dX4_count_17 ⟨Nat.le_of_ble_eq_true rfl, Nat.le_of_ble_eq_true rfl⟩ (fun r _ H locs hp hW => ?_)
    subst hp
    refine lv_goto (tgt := 28) hx hb dX4_count_20 (by decide) ?_
    have hk9 : k_count al (nI q) = 0 := by unfold k_count; rw [if_neg (fun h => h c12)]
    exact ze_i S hW hr hlk () (congrArg (fun z => cM cy ad z ex) (by rw [hk9] <;> rfl)) (by rw [hk9, if_pos rfl] <;> exact (rfl)) (Nat.le_of_ble_eq_true rfl) (Nat.le_of_ble_eq_true rfl) dX4_count_28
set_option maxHeartbeats 4000000 in
set_option maxRecDepth 100000 in
theorem cX4_advise_ok (l : Launch) (D : va_G) (n : Nat) (ad cy sa : Nat → Nat) (sz : Nat) (hn : 35 ≤ n) (al : Nat → Nat → Int32) (th : Int32) (ex : Nat → va_E) (x : Int32) (y : Int32) (B : Nat) (hB : al 0 6 = nI B) (hB4 : B ≤ 4) (hbo : boatO al B) : Met l yX4_advise wsX4_advise ({ frames := 2, cells := 0, slots := 0, locals := 81 }) (PW D n ad cy sa sz (cM cy ad (enc al th) ex) [.ref (ad 28), .int x, .int y]) (QDi D n ad sz (if k_advise al x y = 0 then v_advise al x y else 0) (cM cy ad (enc al (nI (k_advise al x y))) ex)) 0 0 (Acc n ad sz) := by
  refine zs_met (cc := cX4_advise) (maxL := 3) (ret := (some .int)) (own := RX4) (by decide) rfl rfl (Nat.le_of_ble_eq_true rfl) ?_
  intro p e s m args below meth c ls S hE hW hr hlk hsz hav hl
  subst hsz
  have hx := S.1
  have hb := S.2.1
  have hown := S.2.2.2.1
  have hts := S.2.2.2.2
  have hl : lv_has ls 3 [(0, .ref (ad 28)), (1, .int x), (2, .int y)] := hl
  have f28 := hts (.fieldLink RX4 28 "PumiceSledgeModel" "thrown" "I") (by decide +kernel)
  have hi4 : ∀ w ∈ wsX40, w ∈ wsX4_advise := by decide +kernel
  refine lv_aload_n hx hb dX4_advise_0 rfl (lv_at hl 0 rfl) ?_
  refine lv_iconst (v := 0) hx hb dX4_advise_1 (by decide) ?_
  refine z_put (ce' := cM cy ad (zup (enc al th) 0 0 0) ex) (C := RX4) (T := TX4) (N := 9) (ci := 4) S hE hW hi4 tyX4 tyX4_ok nmX4 rfl (Nat.lt_of_lt_of_le (by decide) hn) cM_0 0 (by decide) rfl f28 rfl rfl (Nat.le_of_ble_eq_true rfl) (pM_0 (by decide)) (fun j h => cM_o h) dX4_advise_2 (fun H locs hW => ?_)
  rw [e_th] at hW
  refine lv_aload_n hx hb dX4_advise_5 rfl (lv_at hl 0 rfl) ?_
  refine lv_iload_n hx hb dX4_advise_6 rfl (lv_at hl 1 rfl) ?_
  refine z_cVi (As := [.int x]) (rest := []) (k := 28) S hE hW (cX4_isBoat_ok l D n ad cy sa H.size hn al 0 ex x B (hB) hB4) (cwV 1 hts gX4_advise_X4_isBoat rfl rfl rfl (by decide +kernel) ⟨Nat.le_of_ble_eq_true rfl, Nat.le_of_ble_eq_true rfl⟩) (Nat.lt_of_lt_of_le (by decide) hn) cM_0 rfl rfl rfl hl.1 rfl (Nat.le_of_ble_eq_true rfl) dX4_advise_7 ⟨Nat.le_of_ble_eq_true rfl, Nat.le_of_ble_eq_true rfl⟩ (fun r _ H locs hp hW => ?_)
  subst hp
  refine lv_if_eq (tgt := 22) hx hb dX4_advise_10 (by decide) (fun c10 => ?_) (fun c10 => ?_)
  · have c10 := zb_f c10
    refine lv_aload_n hx hb dX4_advise_22 rfl (lv_at hl 0 rfl) ?_
    refine lv_iconst (v := 1) hx hb dX4_advise_23 (by decide) ?_
    refine z_cVi (As := [.int 1]) (rest := []) (k := 28) S hE hW (cX4_fail_ok l D n ad cy sa H.size hn al 0 ex 1) (cwV 1 hts gX4_advise_X4_fail rfl rfl rfl (by decide +kernel) ⟨Nat.le_of_ble_eq_true rfl, Nat.le_of_ble_eq_true rfl⟩) (Nat.lt_of_lt_of_le (by decide) hn) cM_0 rfl rfl rfl hl.1 rfl (Nat.le_of_ble_eq_true rfl) dX4_advise_24 ⟨Nat.le_of_ble_eq_true rfl, Nat.le_of_ble_eq_true rfl⟩ (fun r _ H locs hp hW => ?_)
    subst hp
    have hk9 : k_advise al x y = 1 := by unfold k_advise; rw [if_pos c10]
    exact ze_i S hW hr hlk () (congrArg (fun z => cM cy ad z ex) (by rw [hk9] <;> rfl)) (by rw [hk9, if_neg (by decide)]) (Nat.le_of_ble_eq_true rfl) (Nat.le_of_ble_eq_true rfl) dX4_advise_27
  · have c10 := zb_t c10
    refine lv_iload_n hx hb dX4_advise_13 rfl (lv_at hl 2 rfl) ?_
    refine lv_iconst (v := 0) hx hb dX4_advise_14 (by decide) ?_
    refine lv_iconst (v := 2) hx hb dX4_advise_15 (by decide) ?_
    refine z_pS (As := [.int y, .int 0, .int 2]) (rest := []) S hE hW (cX4_isIn_ok l y 0 2) (va_cwS 3 hts gX4_advise_X4_isIn rfl rfl rfl (by decide +kernel) ⟨Nat.le_of_ble_eq_true rfl, Nat.le_of_ble_eq_true rfl⟩) rfl hl.1 rfl (Nat.le_of_ble_eq_true rfl) dX4_advise_16 ⟨Nat.le_of_ble_eq_true rfl, Nat.le_of_ble_eq_true rfl⟩ (fun H locs hW => ?_)
    refine lv_if_ne (tgt := 28) hx hb dX4_advise_19 (by decide) (fun c19 => ?_) (fun c19 => ?_)
    · have c19 := zb_t c19
      obtain ⟨i, hi, rfl⟩ := zS_ex hB (by omega) c10
      obtain ⟨j, hj, rfl⟩ := zIn_ex 2 rfl (by decide) c19
      obtain ⟨L, f, t, hL, hf, ht, hft, hL9⟩ := hbo i (by omega)
      refine lv_aload_n hx hb dX4_advise_28 rfl (lv_at hl 0 rfl) ?_
      refine lv_iload_n hx hb dX4_advise_29 rfl (lv_at hl 1 rfl) ?_
      refine z_cVi (As := [.int (nI i)]) (rest := []) (k := 28) S hE hW (cX4_all_ok l D n ad cy sa H.size hn al 0 ex i (by omega)) (cwV 1 hts gX4_advise_X4_all rfl rfl rfl (by decide +kernel) ⟨Nat.le_of_ble_eq_true rfl, Nat.le_of_ble_eq_true rfl⟩) (Nat.lt_of_lt_of_le (by decide) hn) cM_0 rfl rfl rfl hl.1 rfl (Nat.le_of_ble_eq_true rfl) dX4_advise_30 ⟨Nat.le_of_ble_eq_true rfl, Nat.le_of_ble_eq_true rfl⟩ (fun r _ H locs hp hW => ?_)
      subst hp
      refine lv_iload_n hx hb dX4_advise_33 rfl (lv_at hl 2 rfl) ?_
      refine z_pS (As := [.int (nI j)]) (rest := [.int (al (24 + i) 1 + al (24 + i) 2)]) S hE hW (cX4_stowed_ok l (nI j)) (va_cwS 1 hts gX4_advise_X4_stowed rfl rfl rfl (by decide +kernel) ⟨Nat.le_of_ble_eq_true rfl, Nat.le_of_ble_eq_true rfl⟩) rfl hl.1 rfl (Nat.le_of_ble_eq_true rfl) dX4_advise_34 ⟨Nat.le_of_ble_eq_true rfl, Nat.le_of_ble_eq_true rfl⟩ (fun H locs hW => ?_)
      refine lv_iadd hx hb dX4_advise_37 ?_
      refine lv_aload_n hx hb dX4_advise_38 rfl (lv_at hl 0 rfl) ?_
      refine lv_iload_n hx hb dX4_advise_39 rfl (lv_at hl 1 rfl) ?_
      refine lv_iconst (v := 0) hx hb dX4_advise_40 (by decide) ?_
      refine z_cVi (As := [.int (nI i), .int 0]) (rest := [.int ((al (24 + i) 1 + al (24 + i) 2) + stw (nI j))]) (k := 28) S hE hW (cX4_bo_ok l D n ad cy sa H.size hn (enc al 0) ex i (by omega) 0 (by omega)) (cwV 2 hts gX4_advise_X4_bo rfl rfl rfl (by decide +kernel) ⟨Nat.le_of_ble_eq_true rfl, Nat.le_of_ble_eq_true rfl⟩) (Nat.lt_of_lt_of_le (by decide) hn) cM_0 rfl rfl rfl hl.1 rfl (Nat.le_of_ble_eq_true rfl) dX4_advise_41 ⟨Nat.le_of_ble_eq_true rfl, Nat.le_of_ble_eq_true rfl⟩ (fun r _ H locs hp hW => ?_)
      subst hp
      refine z_top2 (y := al (24 + i) 0) (r_f (b := i) (k := 0) (by omega) (by decide)) ?_
      refine lv_icmp_le (tgt := 49) hx hb dX4_advise_44 (by decide) (fun c44 => ?_) (fun c44 => ?_)
      · have hrm : stw (nI j) ≤ ((al (24 + i) 0 - al (24 + i) 1) - al (24 + i) 2) := (z_roomE _ hL hf ht hft hL9).mp c44
        refine lv_aload_n hx hb dX4_advise_49 rfl (lv_at hl 0 rfl) ?_
        refine lv_iload_n hx hb dX4_advise_50 rfl (lv_at hl 1 rfl) ?_
        refine lv_iconst (v := 1) hx hb dX4_advise_51 (by decide) ?_
        refine z_cVi (As := [.int (nI i), .int 1]) (rest := []) (k := 28) S hE hW (cX4_bo_ok l D n ad cy sa H.size hn (enc al 0) ex i (by omega) 1 (by omega)) (cwV 2 hts gX4_advise_X4_bo rfl rfl rfl (by decide +kernel) ⟨Nat.le_of_ble_eq_true rfl, Nat.le_of_ble_eq_true rfl⟩) (Nat.lt_of_lt_of_le (by decide) hn) cM_0 rfl rfl rfl hl.1 rfl (Nat.le_of_ble_eq_true rfl) dX4_advise_52 ⟨Nat.le_of_ble_eq_true rfl, Nat.le_of_ble_eq_true rfl⟩ (fun r _ H locs hp hW => ?_)
        subst hp
        refine z_top2 (y := al (24 + i) 1) (r_f (b := i) (k := 1) (by omega) (by decide)) ?_
        refine lv_iload_n hx hb dX4_advise_55 rfl (lv_at hl 2 rfl) ?_
        refine z_pS (As := [.int (nI j)]) (rest := [.int (al (24 + i) 1)]) S hE hW (cX4_stowed_ok l (nI j)) (va_cwS 1 hts gX4_advise_X4_stowed rfl rfl rfl (by decide +kernel) ⟨Nat.le_of_ble_eq_true rfl, Nat.le_of_ble_eq_true rfl⟩) rfl hl.1 rfl (Nat.le_of_ble_eq_true rfl) dX4_advise_56 ⟨Nat.le_of_ble_eq_true rfl, Nat.le_of_ble_eq_true rfl⟩ (fun H locs hW => ?_)
        refine lv_iadd hx hb dX4_advise_59 ?_
        refine lv_aload_n hx hb dX4_advise_60 rfl (lv_at hl 0 rfl) ?_
        refine lv_iload_n hx hb dX4_advise_61 rfl (lv_at hl 1 rfl) ?_
        refine lv_iconst (v := 2) hx hb dX4_advise_62 (by decide) ?_
        refine z_cVi (As := [.int (nI i), .int 2]) (rest := [.int (al (24 + i) 1 + stw (nI j))]) (k := 28) S hE hW (cX4_bo_ok l D n ad cy sa H.size hn (enc al 0) ex i (by omega) 2 (by omega)) (cwV 2 hts gX4_advise_X4_bo rfl rfl rfl (by decide +kernel) ⟨Nat.le_of_ble_eq_true rfl, Nat.le_of_ble_eq_true rfl⟩) (Nat.lt_of_lt_of_le (by decide) hn) cM_0 rfl rfl rfl hl.1 rfl (Nat.le_of_ble_eq_true rfl) dX4_advise_63 ⟨Nat.le_of_ble_eq_true rfl, Nat.le_of_ble_eq_true rfl⟩ (fun r _ H locs hp hW => ?_)
        subst hp
        refine z_top2 (y := al (24 + i) 2) (r_f (b := i) (k := 2) (by omega) (by decide)) ?_
        refine z_pS (As := [.int (al (24 + i) 1 + stw (nI j)), .int (al (24 + i) 2)]) (rest := []) S hE hW (cX4_depth_ok l (al (24 + i) 1 + stw (nI j)) (al (24 + i) 2)) (va_cwS 2 hts gX4_advise_X4_depth rfl rfl rfl (by decide +kernel) ⟨Nat.le_of_ble_eq_true rfl, Nat.le_of_ble_eq_true rfl⟩) rfl hl.1 rfl (Nat.le_of_ble_eq_true rfl) dX4_advise_66 ⟨Nat.le_of_ble_eq_true rfl, Nat.le_of_ble_eq_true rfl⟩ (fun H locs hW => ?_)
        refine lv_aload_n hx hb dX4_advise_69 rfl (lv_at hl 0 rfl) ?_
        refine lv_iload_n hx hb dX4_advise_70 rfl (lv_at hl 1 rfl) ?_
        refine lv_iconst (v := 1) hx hb dX4_advise_71 (by decide) ?_
        refine z_cVi (As := [.int (nI i), .int 1]) (rest := [.int (dep (al (24 + i) 1 + stw (nI j)) (al (24 + i) 2))]) (k := 28) S hE hW (cX4_bo_ok l D n ad cy sa H.size hn (enc al 0) ex i (by omega) 1 (by omega)) (cwV 2 hts gX4_advise_X4_bo rfl rfl rfl (by decide +kernel) ⟨Nat.le_of_ble_eq_true rfl, Nat.le_of_ble_eq_true rfl⟩) (Nat.lt_of_lt_of_le (by decide) hn) cM_0 rfl rfl rfl hl.1 rfl (Nat.le_of_ble_eq_true rfl) dX4_advise_72 ⟨Nat.le_of_ble_eq_true rfl, Nat.le_of_ble_eq_true rfl⟩ (fun r _ H locs hp hW => ?_)
        subst hp
        refine z_top2 (y := al (24 + i) 1) (r_f (b := i) (k := 1) (by omega) (by decide)) ?_
        refine lv_aload_n hx hb dX4_advise_75 rfl (lv_at hl 0 rfl) ?_
        refine lv_iload_n hx hb dX4_advise_76 rfl (lv_at hl 1 rfl) ?_
        refine lv_iconst (v := 2) hx hb dX4_advise_77 (by decide) ?_
        refine z_cVi (As := [.int (nI i), .int 2]) (rest := [.int (al (24 + i) 1), .int (dep (al (24 + i) 1 + stw (nI j)) (al (24 + i) 2))]) (k := 28) S hE hW (cX4_bo_ok l D n ad cy sa H.size hn (enc al 0) ex i (by omega) 2 (by omega)) (cwV 2 hts gX4_advise_X4_bo rfl rfl rfl (by decide +kernel) ⟨Nat.le_of_ble_eq_true rfl, Nat.le_of_ble_eq_true rfl⟩) (Nat.lt_of_lt_of_le (by decide) hn) cM_0 rfl rfl rfl hl.1 rfl (Nat.le_of_ble_eq_true rfl) dX4_advise_78 ⟨Nat.le_of_ble_eq_true rfl, Nat.le_of_ble_eq_true rfl⟩ (fun r _ H locs hp hW => ?_)
        subst hp
        refine z_top2 (y := al (24 + i) 2) (r_f (b := i) (k := 2) (by omega) (by decide)) ?_
        refine lv_iload_n hx hb dX4_advise_81 rfl (lv_at hl 2 rfl) ?_
        refine z_pS (As := [.int (nI j)]) (rest := [.int (al (24 + i) 2), .int (al (24 + i) 1), .int (dep (al (24 + i) 1 + stw (nI j)) (al (24 + i) 2))]) S hE hW (cX4_stowed_ok l (nI j)) (va_cwS 1 hts gX4_advise_X4_stowed rfl rfl rfl (by decide +kernel) ⟨Nat.le_of_ble_eq_true rfl, Nat.le_of_ble_eq_true rfl⟩) rfl hl.1 rfl (Nat.le_of_ble_eq_true rfl) dX4_advise_82 ⟨Nat.le_of_ble_eq_true rfl, Nat.le_of_ble_eq_true rfl⟩ (fun H locs hW => ?_)
        refine lv_iadd hx hb dX4_advise_85 ?_
        refine z_pS (As := [.int (al (24 + i) 1), .int (al (24 + i) 2 + stw (nI j))]) (rest := [.int (dep (al (24 + i) 1 + stw (nI j)) (al (24 + i) 2))]) S hE hW (cX4_depth_ok l (al (24 + i) 1) (al (24 + i) 2 + stw (nI j))) (va_cwS 2 hts gX4_advise_X4_depth rfl rfl rfl (by decide +kernel) ⟨Nat.le_of_ble_eq_true rfl, Nat.le_of_ble_eq_true rfl⟩) rfl hl.1 rfl (Nat.le_of_ble_eq_true rfl) dX4_advise_86 ⟨Nat.le_of_ble_eq_true rfl, Nat.le_of_ble_eq_true rfl⟩ (fun H locs hW => ?_)
        refine lv_icmp_gt (tgt := 96) hx hb dX4_advise_89 (by decide) (fun c89 => ?_) (fun c89 => ?_)
        · refine lv_iconst (v := 2) hx hb dX4_advise_96 (by decide) ?_
          have hk9 : k_advise al (nI i) (nI j) = 0 := by unfold k_advise; rw [if_neg (fun h => h c10), if_neg (fun h => h c19)]
          exact ze_i S hW hr hlk () (congrArg (fun z => cM cy ad z ex) (by rw [hk9] <;> rfl)) (by rw [hk9, if_pos rfl] <;> exact (by unfold v_advise; rw [ix_nI (show i < 2 ^ 31 by omega), if_pos hrm, if_pos c89])) (Nat.le_of_ble_eq_true rfl) (Nat.le_of_ble_eq_true rfl) dX4_advise_97
        · refine lv_iconst (v := 1) hx hb dX4_advise_92 (by decide) ?_
          refine lv_goto (tgt := 97) hx hb dX4_advise_93 (by decide) ?_
          have hk9 : k_advise al (nI i) (nI j) = 0 := by unfold k_advise; rw [if_neg (fun h => h c10), if_neg (fun h => h c19)]
          exact ze_i S hW hr hlk () (congrArg (fun z => cM cy ad z ex) (by rw [hk9] <;> rfl)) (by rw [hk9, if_pos rfl] <;> exact (by unfold v_advise; rw [ix_nI (show i < 2 ^ 31 by omega), if_pos hrm, if_neg c89])) (Nat.le_of_ble_eq_true rfl) (Nat.le_of_ble_eq_true rfl) dX4_advise_97
      · have hrm : ¬ (stw (nI j) ≤ ((al (24 + i) 0 - al (24 + i) 1) - al (24 + i) 2)) := fun q => c44 ((z_roomE _ hL hf ht hft hL9).mpr q)
        refine lv_iconst (v := 0) hx hb dX4_advise_47 (by decide) ?_
        have hk9 : k_advise al (nI i) (nI j) = 0 := by unfold k_advise; rw [if_neg (fun h => h c10), if_neg (fun h => h c19)]
        exact ze_i S hW hr hlk () (congrArg (fun z => cM cy ad z ex) (by rw [hk9] <;> rfl)) (by rw [hk9, if_pos rfl] <;> exact (by unfold v_advise; rw [ix_nI (show i < 2 ^ 31 by omega), if_neg hrm])) (Nat.le_of_ble_eq_true rfl) (Nat.le_of_ble_eq_true rfl) dX4_advise_48
    · have c19 := zb_f c19
      refine lv_aload_n hx hb dX4_advise_22 rfl (lv_at hl 0 rfl) ?_
      refine lv_iconst (v := 1) hx hb dX4_advise_23 (by decide) ?_
      refine z_cVi (As := [.int 1]) (rest := []) (k := 28) S hE hW (cX4_fail_ok l D n ad cy sa H.size hn al 0 ex 1) (cwV 1 hts gX4_advise_X4_fail rfl rfl rfl (by decide +kernel) ⟨Nat.le_of_ble_eq_true rfl, Nat.le_of_ble_eq_true rfl⟩) (Nat.lt_of_lt_of_le (by decide) hn) cM_0 rfl rfl rfl hl.1 rfl (Nat.le_of_ble_eq_true rfl) dX4_advise_24 ⟨Nat.le_of_ble_eq_true rfl, Nat.le_of_ble_eq_true rfl⟩ (fun r _ H locs hp hW => ?_)
      subst hp
      have hk9 : k_advise al x y = 1 := by unfold k_advise; rw [if_neg (fun h => h c10), if_pos c19]
      exact ze_i S hW hr hlk () (congrArg (fun z => cM cy ad z ex) (by rw [hk9] <;> rfl)) (by rw [hk9, if_neg (by decide)]) (Nat.le_of_ble_eq_true rfl) (Nat.le_of_ble_eq_true rfl) dX4_advise_27
