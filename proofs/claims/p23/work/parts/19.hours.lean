/-! hours; and what the digest is made of -/
theorem zIn_mk {j : Nat} {b : Int32} (M : Nat) (hb : b = nI M) (hM : M < 2 ^ 31) (h : j < M + 1) : zIn (nI j) 0 b := ⟨nI_pos (by omega), by rw [hb]; exact nI_nlt (by omega) hM⟩
theorem zS_mk {y : Int32} {i N : Nat} (hy : y = nI N) (hN : N < 2 ^ 31) (h : i < N) : ¬ nI i < 0 ∧ ¬ y ≤ nI i := ⟨nI_pos (by omega), by rw [hy]; exact nI_ge h hN⟩
theorem travN_row {al : Nat → Nat → Int32} {sh : Nat} {g : Int32} (hsh : sh < 2) : ∀ j i, i < 7 → rowS (travN al sh g j) i = if i < j then trv (rowS al i) g else rowS al i
  | 0, i, _ => by rw [if_neg (Nat.not_lt_zero i)]; rfl
  | j + 1, i, hi => by
    show rowS (travelS (travN al sh g j) j sh g) i = _
    have ih := travN_row (al := al) (g := g) hsh j i hi
    by_cases h : i = j
    · subst h
      rw [rowS_travel hsh, ih, if_neg (Nat.lt_irrefl i), if_pos (Nat.lt_succ_self i)]
    · have h1 : rowS (travelS (travN al sh g j) j sh g) i = rowS (travN al sh g j) i := by
        unfold rowS
        rw [travelS_o (k := 10 + i) (by omega) (by omega) (by omega)]
      rw [h1, ih]
      by_cases h2 : i < j
      · rw [if_pos h2, if_pos (by omega)]
      · rw [if_neg h2, if_neg (by omega)]
theorem hourS_o {al : Nat → Nat → Int32} {N k : Nat} (hN : al 0 4 = nI N) (hN6 : N ≤ 6) (h0 : k ≠ 0) (h6 : k ≠ 6) (h8 : k ≠ 8) (hs : k < 10 ∨ 16 ≤ k) : hourS al k = al k := by
  unfold hourS
  rw [zup_o h0, travN_o h6 h8 _ (fun i hi => by rw [hN, ix_nI (by omega)] at hi; omega)]
theorem hourS_0 {al : Nat → Nat → Int32} : hourS al 0 = upd (al 0) 8 (al 0 8 + 1) := by
  unfold hourS
  rw [zup_k, travN_o (by decide) (by decide) _ (fun i hi => by omega)]
theorem hourS_row {al : Nat → Nat → Int32} {N i : Nat} (hN : al 0 4 = nI N) (hN6 : N ≤ 6) (hi : i < 7) : rowS (hourS al) i = if i < N then trv (rowS al i) (al 3 (ix (al 0 8) % 8)) else rowS al i := by
  have h1 : rowS (hourS al) i = rowS (travN al 0 (al 3 (ix (al 0 8) % 8)) (ix (al 0 4))) i := by
    unfold rowS hourS
    rw [zup_o (k := 0) (a := 10 + i) (by omega)]
  rw [h1, travN_row (by decide) _ _ hi, hN, ix_nI (show N < 2 ^ 31 by omega)]
theorem hourS_ab {al : Nat → Nat → Int32} {N : Nat} (hN : al 0 4 = nI N) (hN6 : N ≤ 6) (h : abOK al) : abOK (hourS al) := by
  intro i hi
  obtain ⟨a, ha, ha8⟩ := h i hi
  have h1 := congrArg (fun z => z.1) (hourS_row hN hN6 hi)
  by_cases h2 : i < N
  · rw [if_pos h2] at h1
    obtain ⟨b, hb, e⟩ := trv_ab (x := rowS al i) (g := al 3 (ix (al 0 8) % 8)) ha ha8
    exact ⟨b, (show hourS al (10 + i) 2 = _ from h1).trans e, by omega⟩
  · rw [if_neg h2] at h1
    exact ⟨a, (show hourS al (10 + i) 2 = _ from h1).trans ha, ha8⟩
def hourN (al : Nat → Nat → Int32) : Nat → Nat → Nat → Int32
  | 0 => al
  | t + 1 => hourS (hourN al t)
theorem hourN_inv {al : Nat → Nat → Int32} {N h : Nat} (hN : al 0 4 = nI N) (hN6 : N ≤ 6) (hh : al 0 8 = nI h) (hab : abOK al) : ∀ t, hourN al t 0 4 = nI N ∧ hourN al t 0 8 = nI (h + t) ∧ abOK (hourN al t)
  | 0 => ⟨hN, hh, hab⟩
  | t + 1 => by
    obtain ⟨h1, h2, h3⟩ := hourN_inv hN hN6 hh hab t
    refine ⟨?_, ?_, hourS_ab h1 hN6 h3⟩
    · show hourS (hourN al t) 0 4 = nI N
      rw [hourS_0, up_n (by decide), h1]
    · show hourS (hourN al t) 0 8 = nI (h + (t + 1))
      rw [hourS_0, up_s, h2, nI_1, Nat.add_assoc]
def ash (st : Nat → Nat → Int32) : Int32 := (st (8 + 0) 0 + st (8 + 0) 1) + st (8 + 0) 2
def ash1 (st : Nat → Nat → Int32) : Int32 := (st (8 + 1) 0 + st (8 + 1) 1) + st (8 + 1) 2
/-- the gusts of the hours to come -/
def gf (al : Nat → Nat → Int32) : Nat → Int32 := fun t => al 3 ((ix (al 0 8) + t) % 8)
theorem gf_eq {al : Nat → Nat → Int32} {h : Nat} (hh : al 0 8 = nI h) (h3 : h < 2 ^ 31) : gf al = fun t => al 3 ((h + t) % 8) := by
  unfold gf
  rw [hh, ix_nI h3]
/-- hours until a sledge stands; hours while it goes down -/
def bk (g : Nat → Int32) : Nat → Nat → Int32 × Int32 × Int32 → Nat
  | 0, _, _ => 0
  | f + 1, t, x => if x.2.2 = 0 then 0 else bk g f (t + 1) (trv x (g t)) + 1
def ar (g : Nat → Int32) : Nat → Nat → Int32 × Int32 × Int32 → Nat
  | 0, _, _ => 0
  | f + 1, t, x => if ¬ x.2.2 = 1 then 0 else ar g f (t + 1) (trv x (g t)) + 1
/-- the first i sledges are seen T hours ahead -/
def forN (al : Nat → Nat → Int32) (T : Nat) : Nat → Nat → Nat → Int32
  | 0 => becomeH al 1 0
  | i + 1 => trvT (becomeS (forN al T i) 6 i) 6 1 (gf al) T
theorem becomeH_o {al : Nat → Nat → Int32} {i k q : Nat} (h1 : q ≠ 8 + i) (h2 : q ≠ 6 + i) : becomeH al i k q = al q := by
  unfold becomeH
  rw [zup_o h2, zset_o h1]
theorem forN_o {al : Nat → Nat → Int32} {T k : Nat} (h1 : k ≠ 7) (h2 : k ≠ 9) (h3 : k ≠ 16) (h4 : k ≠ 23) : ∀ i, forN al T i k = al k
  | 0 => becomeH_o (by omega) (by omega)
  | i + 1 => by
    show trvT (becomeS (forN al T i) 6 i) 6 1 (gf al) T k = al k
    rw [trvT_o (by omega) (by omega) (by omega), becomeS_o (by omega) (by omega), forN_o h1 h2 h3 h4 i]
def foldD (f : Nat → Int64 → Int64) (d : Int64) : Nat → Int64
  | 0 => d
  | j + 1 => f j (foldD f d j)
set_option maxHeartbeats 4000000 in
set_option maxRecDepth 100000 in
theorem cX3_layer0_ok (l : Launch) (D : va_G) (n : Nat) (ad cy sa : Nat → Nat) (sz : Nat) (hn : 28 ≤ n) (al : Nat → Nat → Int32) (ex : Nat → va_E) (j : Nat) (hj : j < 5) (q : Nat) (hq : q < 4) : Met l yX3_layer wsX3_layer ({ frames := 6, cells := 0, slots := 0, locals := 110 }) (PW D n ad cy sa sz (cC cy ad al ex) [.ref (ad 0), .int (nI j), .int (nI q)]) (QDi D n ad sz (v_layer al (nI j) (nI q)) (cC cy ad al ex)) 0 0 (Acc n ad sz) := by
  refine zs_met (cc := cX3_layer) (maxL := 3) (ret := (some .int)) (own := RX3) (by decide) rfl rfl (Nat.le_of_ble_eq_true rfl) ?_
  intro p e s m args below meth c ls S hE hW hr hlk hsz hav hl
  subst hsz
  have hx := S.1
  have hb := S.2.1
  have hown := S.2.2.2.1
  have hts := S.2.2.2.2
  have hl : lv_has ls 3 [(0, .ref (ad 0)), (1, .int (nI j)), (2, .int (nI q))] := hl
  have hz1 : zIn (nI j) 0 4 := zIn_mk 4 rfl (by decide) hj
  have hz2 : zIn (nI q) 0 3 := zIn_mk 3 rfl (by decide) hq
  have f9 := hts (.fieldLink RX3 9 "PumiceSledge" "stones" "[I") (by decide +kernel)
  have hi3 : ∀ w ∈ wsX30, w ∈ wsX3_layer := by decide +kernel
  have f13 := hts (.fieldLink RX3 13 "PumiceSledge" "stoneWeights" "[I") (by decide +kernel)
  refine lv_iload_n hx hb dX3_layer_0 rfl (lv_at hl 1 rfl) ?_
  refine z_pS (As := [.int (nI j)]) (rest := []) S hE hW (cX3_isLayer_ok l (nI j)) (va_cwS 1 hts gX3_layer_X3_isLayer rfl rfl rfl (by decide +kernel) ⟨Nat.le_of_ble_eq_true rfl, Nat.le_of_ble_eq_true rfl⟩) rfl hl.1 rfl (Nat.le_of_ble_eq_true rfl) dX3_layer_1 ⟨Nat.le_of_ble_eq_true rfl, Nat.le_of_ble_eq_true rfl⟩ (fun H locs hW => ?_)
  refine lv_if_ne (tgt := 17) hx hb dX3_layer_4 (by decide) (fun _ => ?_) (fun h => absurd h (zb_pt hz1))
  refine lv_iload_n hx hb dX3_layer_17 rfl (lv_at hl 2 rfl) ?_
  refine lv_iconst (v := 0) hx hb dX3_layer_18 (by decide) ?_
  refine lv_iconst (v := 3) hx hb dX3_layer_19 (by decide) ?_
  refine z_pS (As := [.int (nI q), .int 0, .int 3]) (rest := []) S hE hW (cX3_isWithin_ok l (nI q) 0 3) (va_cwS 3 hts gX3_layer_X3_isWithin rfl rfl rfl (by decide +kernel) ⟨Nat.le_of_ble_eq_true rfl, Nat.le_of_ble_eq_true rfl⟩) rfl hl.1 rfl (Nat.le_of_ble_eq_true rfl) dX3_layer_20 ⟨Nat.le_of_ble_eq_true rfl, Nat.le_of_ble_eq_true rfl⟩ (fun H locs hW => ?_)
  refine lv_if_ne (tgt := 36) hx hb dX3_layer_23 (by decide) (fun _ => ?_) (fun h => absurd h (zb_pt hz2))
  refine lv_iload_n hx hb dX3_layer_36 rfl (lv_at hl 2 rfl) ?_
  rcases (show q = 0 ∨ q = 1 ∨ q = 2 ∨ q = 3 by omega) with rfl | rfl | rfl | rfl
  · refine lv_tableIn (off := 27) (tgt := 64) hx hb dX3_layer_37 (by decide) (by decide) rfl (by decide) ?_
    refine lv_aload_n hx hb dX3_layer_64 rfl (lv_at hl 0 rfl) ?_
    refine z_get (C := RX3) (T := TX3) (N := 12) (ci := 3) S hE hW hi3 rfl (Nat.lt_of_lt_of_le (by decide) hn) cC_0 0 (by decide) rfl f9 (v := .ref (ad 1)) rfl dX3_layer_65 ?_
    refine lv_iload_n hx hb dX3_layer_68 rfl (lv_at hl 1 rfl) ?_
    refine z_ald S hE hW (Nat.lt_of_lt_of_le (by decide) hn) cC_1 j rfl (by omega) (by decide) (v := al 1 j) rfl dX3_layer_69 ?_
    exact ze_i S hW hr hlk () rfl (by unfold v_layer; rw [if_pos (by decide), ix_nI (show j < 2 ^ 31 by omega)]) (Nat.le_of_ble_eq_true rfl) (Nat.le_of_ble_eq_true rfl) dX3_layer_70
  · refine lv_tableIn (off := 34) (tgt := 71) hx hb dX3_layer_37 (by decide) (by decide) rfl (by decide) ?_
    refine lv_aload_n hx hb dX3_layer_71 rfl (lv_at hl 0 rfl) ?_
    refine z_get (C := RX3) (T := TX3) (N := 12) (ci := 3) S hE hW hi3 rfl (Nat.lt_of_lt_of_le (by decide) hn) cC_0 1 (by decide) rfl f13 (v := .ref (ad 2)) rfl dX3_layer_72 ?_
    refine lv_iload_n hx hb dX3_layer_75 rfl (lv_at hl 1 rfl) ?_
    refine z_ald S hE hW (Nat.lt_of_lt_of_le (by decide) hn) cC_2 j rfl (by omega) (by decide) (v := al 2 j) rfl dX3_layer_76 ?_
    exact ze_i S hW hr hlk () rfl (by unfold v_layer; rw [if_neg (by decide), if_pos (by decide), ix_nI (show j < 2 ^ 31 by omega)]) (Nat.le_of_ble_eq_true rfl) (Nat.le_of_ble_eq_true rfl) dX3_layer_77
  · refine lv_tableIn (off := 41) (tgt := 78) hx hb dX3_layer_37 (by decide) (by decide) rfl (by decide) ?_
    refine lv_aload_n hx hb dX3_layer_78 rfl (lv_at hl 0 rfl) ?_
    refine lv_iload_n hx hb dX3_layer_79 rfl (lv_at hl 1 rfl) ?_
    refine z_cVi (As := [.int (nI j)]) (rest := []) (k := 0) S hE hW (cX3_sackWeight_ok l D n ad cy sa H.size hn al ex j (by omega)) (cwV 1 hts gX3_layer_X3_sackWeight rfl rfl rfl (by decide +kernel) ⟨Nat.le_of_ble_eq_true rfl, Nat.le_of_ble_eq_true rfl⟩) (Nat.lt_of_lt_of_le (by decide) hn) cC_0 rfl rfl rfl hl.1 rfl (Nat.le_of_ble_eq_true rfl) dX3_layer_80 ⟨Nat.le_of_ble_eq_true rfl, Nat.le_of_ble_eq_true rfl⟩ (fun r _ H locs hp hW => ?_)
    subst hp
    refine z_pS (As := [.int (10 * al 2 j)]) (rest := []) S hE hW (cX3_kindOf_ok l (10 * al 2 j)) (va_cwS 1 hts gX3_layer_X3_kindOf rfl rfl rfl (by decide +kernel) ⟨Nat.le_of_ble_eq_true rfl, Nat.le_of_ble_eq_true rfl⟩) rfl hl.1 rfl (Nat.le_of_ble_eq_true rfl) dX3_layer_83 ⟨Nat.le_of_ble_eq_true rfl, Nat.le_of_ble_eq_true rfl⟩ (fun H locs hW => ?_)
    exact ze_i S hW hr hlk () rfl (by unfold v_layer; rw [if_neg (by decide), if_neg (by decide), if_pos (by decide), ix_nI (show j < 2 ^ 31 by omega)]) (Nat.le_of_ble_eq_true rfl) (Nat.le_of_ble_eq_true rfl) dX3_layer_86
  · refine lv_tableOut (tgt := 87) hx hb dX3_layer_37 (by decide) (by decide) ?_
    refine lv_aload_n hx hb dX3_layer_87 rfl (lv_at hl 0 rfl) ?_
    refine z_get (C := RX3) (T := TX3) (N := 12) (ci := 3) S hE hW hi3 rfl (Nat.lt_of_lt_of_le (by decide) hn) cC_0 0 (by decide) rfl f9 (v := .ref (ad 1)) rfl dX3_layer_88 ?_
    refine lv_iload_n hx hb dX3_layer_91 rfl (lv_at hl 1 rfl) ?_
    refine z_ald S hE hW (Nat.lt_of_lt_of_le (by decide) hn) cC_1 j rfl (by omega) (by decide) (v := al 1 j) rfl dX3_layer_92 ?_
    refine lv_bipush (v := 10) hx hb dX3_layer_93 (by decide) ?_
    refine lv_idiv hx hb dX3_layer_95 (by decide) ?_
    exact ze_i S hW hr hlk () rfl (by unfold v_layer; rw [if_neg (by decide), if_neg (by decide), if_neg (by decide), ix_nI (show j < 2 ^ 31 by omega)]) (Nat.le_of_ble_eq_true rfl) (Nat.le_of_ble_eq_true rfl) dX3_layer_96
set_option maxHeartbeats 4000000 in
set_option maxRecDepth 100000 in
theorem cX3_told0_ok (l : Launch) (D : va_G) (n : Nat) (ad cy sa : Nat → Nat) (sz : Nat) (hn : 28 ≤ n) (al : Nat → Nat → Int32) (ex : Nat → va_E) (N : Nat) (hN : al 0 4 = nI N) (hN6 : N ≤ 6) (hab : abOK al) (i : Nat) (hi : i < N) (q : Nat) (hq : q < 6) : Met l yX3_told wsX3_told ({ frames := 6, cells := 0, slots := 0, locals := 110 }) (PW D n ad cy sa sz (cC cy ad al ex) [.ref (ad 0), .int (nI i), .int (nI q)]) (QDi D n ad sz (v_told al (nI i) (nI q)) (cC cy ad al ex)) 0 0 (Acc n ad sz) := by
  refine zs_met (cc := cX3_told) (maxL := 4) (ret := (some .int)) (own := RX3) (by decide) rfl rfl (Nat.le_of_ble_eq_true rfl) ?_
  intro p e s m args below meth c ls S hE hW hr hlk hsz hav hl
  subst hsz
  have hx := S.1
  have hb := S.2.1
  have hown := S.2.2.2.1
  have hts := S.2.2.2.2
  have hl : lv_has ls 4 [(0, .ref (ad 0)), (1, .int (nI i)), (2, .int (nI q))] := hl
  have hz1 : ¬ (nI i) < 0 ∧ ¬ al 0 4 ≤ (nI i) := zS_mk hN (by omega) hi
  have hz2 : zIn (nI q) 0 5 := zIn_mk 5 rfl (by decide) hq
  obtain ⟨a, ha, ha8⟩ := hab i (by omega)
  have f21 := hts (.fieldLink RX3 21 "PumiceSledge" "sledges" "[LPumiceSledge$Sledge;") (by decide +kernel)
  have hi3 : ∀ w ∈ wsX30, w ∈ wsX3_told := by decide +kernel
  have hi2 : ∀ w ∈ wsX20, w ∈ wsX3_told := by decide +kernel
  refine lv_aload_n hx hb dX3_told_0 rfl (lv_at hl 0 rfl) ?_
  refine lv_iload_n hx hb dX3_told_1 rfl (lv_at hl 1 rfl) ?_
  refine z_cVi (As := [.int (nI i)]) (rest := []) (k := 0) S hE hW (cX3_isSledge_ok l D n ad cy sa s.heap.size hn al ex (nI i)) (cwV 1 hts gX3_told_X3_isSledge rfl rfl rfl (by decide +kernel) ⟨Nat.le_of_ble_eq_true rfl, Nat.le_of_ble_eq_true rfl⟩) (Nat.lt_of_lt_of_le (by decide) hn) cC_0 rfl rfl rfl hl.1 rfl (Nat.le_of_ble_eq_true rfl) dX3_told_2 ⟨Nat.le_of_ble_eq_true rfl, Nat.le_of_ble_eq_true rfl⟩ (fun r _ H locs hp hW => ?_)
  subst hp
  refine lv_if_ne (tgt := 18) hx hb dX3_told_5 (by decide) (fun _ => ?_) (fun h => absurd h (zb_pt hz1))
  refine lv_iload_n hx hb dX3_told_18 rfl (lv_at hl 2 rfl) ?_
  refine lv_iconst (v := 0) hx hb dX3_told_19 (by decide) ?_
  refine lv_iconst (v := 5) hx hb dX3_told_20 (by decide) ?_
  refine z_pS (As := [.int (nI q), .int 0, .int 5]) (rest := []) S hE hW (cX3_isWithin_ok l (nI q) 0 5) (va_cwS 3 hts gX3_told_X3_isWithin rfl rfl rfl (by decide +kernel) ⟨Nat.le_of_ble_eq_true rfl, Nat.le_of_ble_eq_true rfl⟩) rfl hl.1 rfl (Nat.le_of_ble_eq_true rfl) dX3_told_21 ⟨Nat.le_of_ble_eq_true rfl, Nat.le_of_ble_eq_true rfl⟩ (fun H locs hW => ?_)
  refine lv_if_ne (tgt := 37) hx hb dX3_told_24 (by decide) (fun _ => ?_) (fun h => absurd h (zb_pt hz2))
  refine lv_aload_n hx hb dX3_told_37 rfl (lv_at hl 0 rfl) ?_
  refine z_get (C := RX3) (T := TX3) (N := 12) (ci := 3) S hE hW hi3 rfl (Nat.lt_of_lt_of_le (by decide) hn) cC_0 3 (by decide) rfl f21 (v := .ref (ad 4)) rfl dX3_told_38 ?_
  refine lv_iload_n hx hb dX3_told_41 rfl (lv_at hl 1 rfl) ?_
  refine z_aldq (t0 := 1) (C := RX2) S hE hW (Nat.lt_of_lt_of_le (by decide) hn) cC_4 rfl i rfl (by omega) (by decide) (v := .ref (ad (10 + i))) rfl dX3_told_42 ?_
  refine lv_astore_n (lv' := [(3, .ref (ad (10 + i))), (0, .ref (ad 0)), (1, .int (nI i)), (2, .int (nI q))]) hx hb dX3_told_43 rfl hl (by decide) rfl (fun ls hl => ?_)
  refine lv_iload_n hx hb dX3_told_44 rfl (lv_at hl 3 rfl) ?_
  rcases (show q = 0 ∨ q = 1 ∨ q = 2 ∨ q = 3 ∨ q = 4 ∨ q = 5 by omega) with rfl | rfl | rfl | rfl | rfl | rfl
  · refine lv_tableIn (off := 35) (tgt := 80) hx hb dX3_told_45 (by decide) (by decide) rfl (by decide) ?_
    refine lv_aload_n hx hb dX3_told_80 rfl (lv_at hl 0 rfl) ?_
    refine z_getN (C := RX2) (T := TX2) (N := 5) (ci := 2) S hE hW hi2 rfl (Nat.lt_of_lt_of_le (kC_s (by omega)) hn) (cC_s (i := i) (by omega)) 0 (by decide) rfl 6 rfl (v := .int (al (10 + i) 0)) rfl dX3_told_81 ?_
    exact ze_i S hW hr hlk () rfl (by unfold v_told; rw [if_pos (by decide), ix_nI (show i < 2 ^ 31 by omega)]) (Nat.le_of_ble_eq_true rfl) (Nat.le_of_ble_eq_true rfl) dX3_told_84
  · refine lv_tableIn (off := 40) (tgt := 85) hx hb dX3_told_45 (by decide) (by decide) rfl (by decide) ?_
    refine lv_aload_n hx hb dX3_told_85 rfl (lv_at hl 0 rfl) ?_
    refine z_getN (C := RX2) (T := TX2) (N := 5) (ci := 2) S hE hW hi2 rfl (Nat.lt_of_lt_of_le (kC_s (by omega)) hn) (cC_s (i := i) (by omega)) 2 (by decide) rfl 8 rfl (v := .int (al (10 + i) 2)) rfl dX3_told_86 ?_
    exact ze_i S hW hr hlk () rfl (by unfold v_told; rw [if_neg (by decide), if_pos (by decide), ix_nI (show i < 2 ^ 31 by omega)]) (Nat.le_of_ble_eq_true rfl) (Nat.le_of_ble_eq_true rfl) dX3_told_89
  · refine lv_tableIn (off := 45) (tgt := 90) hx hb dX3_told_45 (by decide) (by decide) rfl (by decide) ?_
    refine lv_aload_n hx hb dX3_told_90 rfl (lv_at hl 0 rfl) ?_
    refine z_getN (C := RX2) (T := TX2) (N := 5) (ci := 2) S hE hW hi2 rfl (Nat.lt_of_lt_of_le (kC_s (by omega)) hn) (cC_s (i := i) (by omega)) 3 (by decide) rfl 9 rfl (v := .int (al (10 + i) 3)) rfl dX3_told_91 ?_
    exact ze_i S hW hr hlk () rfl (by unfold v_told; rw [if_neg (by decide), if_neg (by decide), if_pos (by decide), ix_nI (show i < 2 ^ 31 by omega)]) (Nat.le_of_ble_eq_true rfl) (Nat.le_of_ble_eq_true rfl) dX3_told_94
  · refine lv_tableIn (off := 50) (tgt := 95) hx hb dX3_told_45 (by decide) (by decide) rfl (by decide) ?_
    refine lv_aload_n hx hb dX3_told_95 rfl (lv_at hl 0 rfl) ?_
    refine z_getN (C := RX2) (T := TX2) (N := 5) (ci := 2) S hE hW hi2 rfl (Nat.lt_of_lt_of_le (kC_s (by omega)) hn) (cC_s (i := i) (by omega)) 4 (by decide) rfl 10 rfl (v := .int (al (10 + i) 4)) rfl dX3_told_96 ?_
    exact ze_i S hW hr hlk () rfl (by unfold v_told; rw [if_neg (by decide), if_neg (by decide), if_neg (by decide), if_pos (by decide), ix_nI (show i < 2 ^ 31 by omega)]) (Nat.le_of_ble_eq_true rfl) (Nat.le_of_ble_eq_true rfl) dX3_told_99
  · refine lv_tableIn (off := 55) (tgt := 100) hx hb dX3_told_45 (by decide) (by decide) rfl (by decide) ?_
    refine lv_aload_n hx hb dX3_told_100 rfl (lv_at hl 0 rfl) ?_
    refine z_cVi (As := []) (rest := []) (k := (10 + i)) S hE hW (cX2_weightAboard_ok l D n ad cy sa H.size hn al ex i (by omega) a ha ha8) (cwV 0 hts gX3_told_X2_weightAboard rfl rfl rfl (by decide +kernel) ⟨Nat.le_of_ble_eq_true rfl, Nat.le_of_ble_eq_true rfl⟩) (Nat.lt_of_lt_of_le (kC_s (by omega)) hn) (cC_s (i := i) (by omega)) rfl rfl rfl hl.1 rfl (Nat.le_of_ble_eq_true rfl) dX3_told_101 ⟨Nat.le_of_ble_eq_true rfl, Nat.le_of_ble_eq_true rfl⟩ (fun r _ H locs hp hW => ?_)
    subst hp
    exact ze_i S hW hr hlk () rfl (by unfold v_told; rw [if_neg (by decide), if_neg (by decide), if_neg (by decide), if_neg (by decide), if_pos (by decide), ix_nI (show i < 2 ^ 31 by omega), ha, ix_nI (show a < 2 ^ 31 by omega)]) (Nat.le_of_ble_eq_true rfl) (Nat.le_of_ble_eq_true rfl) dX3_told_104
  · refine lv_tableOut (tgt := 105) hx hb dX3_told_45 (by decide) (by decide) ?_
    refine lv_aload_n hx hb dX3_told_105 rfl (lv_at hl 0 rfl) ?_
    refine z_cVi (As := []) (rest := []) (k := (10 + i)) S hE hW (cX2_lastKind_ok l D n ad cy sa H.size hn al ex i (by omega) a ha ha8) (cwV 0 hts gX3_told_X2_lastKind rfl rfl rfl (by decide +kernel) ⟨Nat.le_of_ble_eq_true rfl, Nat.le_of_ble_eq_true rfl⟩) (Nat.lt_of_lt_of_le (kC_s (by omega)) hn) (cC_s (i := i) (by omega)) rfl rfl rfl hl.1 rfl (Nat.le_of_ble_eq_true rfl) dX3_told_106 ⟨Nat.le_of_ble_eq_true rfl, Nat.le_of_ble_eq_true rfl⟩ (fun r _ H locs hp hW => ?_)
    subst hp
    exact ze_i S hW hr hlk () rfl (by unfold v_told; rw [ix_nI (show i < 2 ^ 31 by omega), ha, ix_nI (show a < 2 ^ 31 by omega)]; exact Eq.symm ((if_neg (by decide)).trans ((if_neg (by decide)).trans ((if_neg (by decide)).trans ((if_neg (by decide)).trans ((if_neg (by decide)).trans (rfl))))))) (Nat.le_of_ble_eq_true rfl) (Nat.le_of_ble_eq_true rfl) dX3_told_109
set_option maxHeartbeats 4000000 in
set_option maxRecDepth 100000 in
theorem cX3_boat0_ok (l : Launch) (D : va_G) (n : Nat) (ad cy sa : Nat → Nat) (sz : Nat) (hn : 28 ≤ n) (al : Nat → Nat → Int32) (ex : Nat → va_E) (B : Nat) (hB : al 0 6 = nI B) (hB4 : B ≤ 4) (i : Nat) (hi : i < B) (q : Nat) (hq : q < 7) : Met l yX3_boat wsX3_boat ({ frames := 6, cells := 0, slots := 0, locals := 121 }) (PW D n ad cy sa sz (cC cy ad al ex) [.ref (ad 0), .int (nI i), .int (nI q)]) (QDi D n ad sz (v_boat al (nI i) (nI q)) (cC cy ad al ex)) 0 0 (Acc n ad sz) := by
  refine zs_met (cc := cX3_boat) (maxL := 4) (ret := (some .int)) (own := RX3) (by decide) rfl rfl (Nat.le_of_ble_eq_true rfl) ?_
  intro p e s m args below meth c ls S hE hW hr hlk hsz hav hl
  subst hsz
  have hx := S.1
  have hb := S.2.1
  have hown := S.2.2.2.1
  have hts := S.2.2.2.2
  have hl : lv_has ls 4 [(0, .ref (ad 0)), (1, .int (nI i)), (2, .int (nI q))] := hl
  have hz1 : ¬ (nI i) < 0 ∧ ¬ al 0 6 ≤ (nI i) := zS_mk hB (by omega) hi
  have hz2 : zIn (nI q) 0 6 := zIn_mk 6 rfl (by decide) hq
  have f27 := hts (.fieldLink RX3 27 "PumiceSledge" "boats" "[LPumiceSledge$Boat;") (by decide +kernel)
  have hi3 : ∀ w ∈ wsX30, w ∈ wsX3_boat := by decide +kernel
  have hi0 : ∀ w ∈ wsX00, w ∈ wsX3_boat := by decide +kernel
  refine lv_aload_n hx hb dX3_boat_0 rfl (lv_at hl 0 rfl) ?_
  refine lv_iload_n hx hb dX3_boat_1 rfl (lv_at hl 1 rfl) ?_
  refine z_cVi (As := [.int (nI i)]) (rest := []) (k := 0) S hE hW (cX3_isBoat_ok l D n ad cy sa s.heap.size hn al ex (nI i)) (cwV 1 hts gX3_boat_X3_isBoat rfl rfl rfl (by decide +kernel) ⟨Nat.le_of_ble_eq_true rfl, Nat.le_of_ble_eq_true rfl⟩) (Nat.lt_of_lt_of_le (by decide) hn) cC_0 rfl rfl rfl hl.1 rfl (Nat.le_of_ble_eq_true rfl) dX3_boat_2 ⟨Nat.le_of_ble_eq_true rfl, Nat.le_of_ble_eq_true rfl⟩ (fun r _ H locs hp hW => ?_)
  subst hp
  refine lv_if_ne (tgt := 18) hx hb dX3_boat_5 (by decide) (fun _ => ?_) (fun h => absurd h (zb_pt hz1))
  refine lv_iload_n hx hb dX3_boat_18 rfl (lv_at hl 2 rfl) ?_
  refine lv_iconst (v := 0) hx hb dX3_boat_19 (by decide) ?_
  refine lv_bipush (v := 6) hx hb dX3_boat_20 (by decide) ?_
  refine z_pS (As := [.int (nI q), .int 0, .int 6]) (rest := []) S hE hW (cX3_isWithin_ok l (nI q) 0 6) (va_cwS 3 hts gX3_boat_X3_isWithin rfl rfl rfl (by decide +kernel) ⟨Nat.le_of_ble_eq_true rfl, Nat.le_of_ble_eq_true rfl⟩) rfl hl.1 rfl (Nat.le_of_ble_eq_true rfl) dX3_boat_22 ⟨Nat.le_of_ble_eq_true rfl, Nat.le_of_ble_eq_true rfl⟩ (fun H locs hW => ?_)
  refine lv_if_ne (tgt := 38) hx hb dX3_boat_25 (by decide) (fun _ => ?_) (fun h => absurd h (zb_pt hz2))
  refine lv_aload_n hx hb dX3_boat_38 rfl (lv_at hl 0 rfl) ?_
  refine z_get (C := RX3) (T := TX3) (N := 12) (ci := 3) S hE hW hi3 rfl (Nat.lt_of_lt_of_le (by decide) hn) cC_0 5 (by decide) rfl f27 (v := .ref (ad 5)) rfl dX3_boat_39 ?_
  refine lv_iload_n hx hb dX3_boat_42 rfl (lv_at hl 1 rfl) ?_
  refine z_aldq (t0 := 2) (C := RX0) S hE hW (Nat.lt_of_lt_of_le (by decide) hn) cC_5 rfl i rfl (by omega) (by decide) (v := .ref (ad (24 + i))) rfl dX3_boat_43 ?_
  refine lv_astore_n (lv' := [(3, .ref (ad (24 + i))), (0, .ref (ad 0)), (1, .int (nI i)), (2, .int (nI q))]) hx hb dX3_boat_44 rfl hl (by decide) rfl (fun ls hl => ?_)
  refine lv_iload_n hx hb dX3_boat_45 rfl (lv_at hl 3 rfl) ?_
  rcases (show q = 0 ∨ q = 1 ∨ q = 2 ∨ q = 3 ∨ q = 4 ∨ q = 5 ∨ q = 6 by omega) with rfl | rfl | rfl | rfl | rfl | rfl | rfl
  · refine lv_tableIn (off := 38) (tgt := 84) hx hb dX3_boat_46 (by decide) (by decide) rfl (by decide) ?_
    refine lv_aload_n hx hb dX3_boat_84 rfl (lv_at hl 0 rfl) ?_
    refine z_getN (C := RX0) (T := TX0) (N := 3) (ci := 0) S hE hW hi0 rfl (Nat.lt_of_lt_of_le (kC_b (by omega)) hn) (cC_b (i := i) (by omega)) 0 (by decide) rfl 12 rfl (v := .int (al (24 + i) 0)) rfl dX3_boat_85 ?_
    exact ze_i S hW hr hlk () rfl (by unfold v_boat; simp only [ix_nI (show i < 2 ^ 31 by omega)]; rw [if_pos (by decide)]) (Nat.le_of_ble_eq_true rfl) (Nat.le_of_ble_eq_true rfl) dX3_boat_88
  · refine lv_tableIn (off := 43) (tgt := 89) hx hb dX3_boat_46 (by decide) (by decide) rfl (by decide) ?_
    refine lv_aload_n hx hb dX3_boat_89 rfl (lv_at hl 0 rfl) ?_
    refine z_getN (C := RX0) (T := TX0) (N := 3) (ci := 0) S hE hW hi0 rfl (Nat.lt_of_lt_of_le (kC_b (by omega)) hn) (cC_b (i := i) (by omega)) 1 (by decide) rfl 13 rfl (v := .int (al (24 + i) 1)) rfl dX3_boat_90 ?_
    exact ze_i S hW hr hlk () rfl (by unfold v_boat; simp only [ix_nI (show i < 2 ^ 31 by omega)]; rw [if_neg (by decide), if_pos (by decide)]) (Nat.le_of_ble_eq_true rfl) (Nat.le_of_ble_eq_true rfl) dX3_boat_93
  · refine lv_tableIn (off := 48) (tgt := 94) hx hb dX3_boat_46 (by decide) (by decide) rfl (by decide) ?_
    refine lv_aload_n hx hb dX3_boat_94 rfl (lv_at hl 0 rfl) ?_
    refine z_getN (C := RX0) (T := TX0) (N := 3) (ci := 0) S hE hW hi0 rfl (Nat.lt_of_lt_of_le (kC_b (by omega)) hn) (cC_b (i := i) (by omega)) 2 (by decide) rfl 14 rfl (v := .int (al (24 + i) 2)) rfl dX3_boat_95 ?_
    exact ze_i S hW hr hlk () rfl (by unfold v_boat; simp only [ix_nI (show i < 2 ^ 31 by omega)]; rw [if_neg (by decide), if_neg (by decide), if_pos (by decide)]) (Nat.le_of_ble_eq_true rfl) (Nat.le_of_ble_eq_true rfl) dX3_boat_98
  · refine lv_tableIn (off := 53) (tgt := 99) hx hb dX3_boat_46 (by decide) (by decide) rfl (by decide) ?_
    refine lv_aload_n hx hb dX3_boat_99 rfl (lv_at hl 0 rfl) ?_
    refine z_cVi (As := []) (rest := []) (k := (24 + i)) S hE hW (cX0_trim_ok l D n ad cy sa H.size hn al ex i (by omega)) (cwV 0 hts gX3_boat_X0_trim rfl rfl rfl (by decide +kernel) ⟨Nat.le_of_ble_eq_true rfl, Nat.le_of_ble_eq_true rfl⟩) (Nat.lt_of_lt_of_le (kC_b (by omega)) hn) (cC_b (i := i) (by omega)) rfl rfl rfl hl.1 rfl (Nat.le_of_ble_eq_true rfl) dX3_boat_100 ⟨Nat.le_of_ble_eq_true rfl, Nat.le_of_ble_eq_true rfl⟩ (fun r _ H locs hp hW => ?_)
    subst hp
    exact ze_i S hW hr hlk () rfl (by unfold v_boat; simp only [ix_nI (show i < 2 ^ 31 by omega)]; rw [if_neg (by decide), if_neg (by decide), if_neg (by decide), if_pos (by decide)]) (Nat.le_of_ble_eq_true rfl) (Nat.le_of_ble_eq_true rfl) dX3_boat_103
  · refine lv_tableIn (off := 58) (tgt := 104) hx hb dX3_boat_46 (by decide) (by decide) rfl (by decide) ?_
    refine lv_aload_n hx hb dX3_boat_104 rfl (lv_at hl 0 rfl) ?_
    refine z_cVi (As := []) (rest := []) (k := (24 + i)) S hE hW (cX0_depth_ok l D n ad cy sa H.size hn al ex i (by omega)) (cwV 0 hts gX3_boat_X0_depth rfl rfl rfl (by decide +kernel) ⟨Nat.le_of_ble_eq_true rfl, Nat.le_of_ble_eq_true rfl⟩) (Nat.lt_of_lt_of_le (kC_b (by omega)) hn) (cC_b (i := i) (by omega)) rfl rfl rfl hl.1 rfl (Nat.le_of_ble_eq_true rfl) dX3_boat_105 ⟨Nat.le_of_ble_eq_true rfl, Nat.le_of_ble_eq_true rfl⟩ (fun r _ H locs hp hW => ?_)
    subst hp
    exact ze_i S hW hr hlk () rfl (by unfold v_boat; simp only [ix_nI (show i < 2 ^ 31 by omega)]; rw [if_neg (by decide), if_neg (by decide), if_neg (by decide), if_neg (by decide), if_pos (by decide)]) (Nat.le_of_ble_eq_true rfl) (Nat.le_of_ble_eq_true rfl) dX3_boat_108
  · refine lv_tableIn (off := 63) (tgt := 109) hx hb dX3_boat_46 (by decide) (by decide) rfl (by decide) ?_
    refine lv_aload_n hx hb dX3_boat_109 rfl (lv_at hl 0 rfl) ?_
    refine z_cVi (As := []) (rest := []) (k := (24 + i)) S hE hW (cX0_canSail_ok l D n ad cy sa H.size hn al ex i (by omega)) (cwV 0 hts gX3_boat_X0_canSail rfl rfl rfl (by decide +kernel) ⟨Nat.le_of_ble_eq_true rfl, Nat.le_of_ble_eq_true rfl⟩) (Nat.lt_of_lt_of_le (kC_b (by omega)) hn) (cC_b (i := i) (by omega)) rfl rfl rfl hl.1 rfl (Nat.le_of_ble_eq_true rfl) dX3_boat_110 ⟨Nat.le_of_ble_eq_true rfl, Nat.le_of_ble_eq_true rfl⟩ (fun r _ H locs hp hW => ?_)
    subst hp
    refine lv_if_eq (tgt := 120) hx hb dX3_boat_113 (by decide) (fun c113 => ?_) (fun c113 => ?_)
    · have c113 := zb_f c113
      refine lv_iconst (v := 0) hx hb dX3_boat_120 (by decide) ?_
      exact ze_i S hW hr hlk () rfl (by unfold v_boat; simp only [ix_nI (show i < 2 ^ 31 by omega)]; rw [if_neg (by decide), if_neg (by decide), if_neg (by decide), if_neg (by decide), if_neg (by decide), if_pos (by decide)]; exact (if_neg c113).symm) (Nat.le_of_ble_eq_true rfl) (Nat.le_of_ble_eq_true rfl) dX3_boat_121
    · have c113 := zb_t c113
      refine lv_iconst (v := 1) hx hb dX3_boat_116 (by decide) ?_
      refine lv_goto (tgt := 121) hx hb dX3_boat_117 (by decide) ?_
      exact ze_i S hW hr hlk () rfl (by unfold v_boat; simp only [ix_nI (show i < 2 ^ 31 by omega)]; rw [if_neg (by decide), if_neg (by decide), if_neg (by decide), if_neg (by decide), if_neg (by decide), if_pos (by decide)]; exact (if_pos c113).symm) (Nat.le_of_ble_eq_true rfl) (Nat.le_of_ble_eq_true rfl) dX3_boat_121
  · refine lv_tableOut (tgt := 122) hx hb dX3_boat_46 (by decide) (by decide) ?_
    refine lv_aload_n hx hb dX3_boat_122 rfl (lv_at hl 0 rfl) ?_
    refine z_cVi (As := []) (rest := []) (k := (24 + i)) S hE hW (cX0_room_ok l D n ad cy sa H.size hn al ex i (by omega)) (cwV 0 hts gX3_boat_X0_room rfl rfl rfl (by decide +kernel) ⟨Nat.le_of_ble_eq_true rfl, Nat.le_of_ble_eq_true rfl⟩) (Nat.lt_of_lt_of_le (kC_b (by omega)) hn) (cC_b (i := i) (by omega)) rfl rfl rfl hl.1 rfl (Nat.le_of_ble_eq_true rfl) dX3_boat_123 ⟨Nat.le_of_ble_eq_true rfl, Nat.le_of_ble_eq_true rfl⟩ (fun r _ H locs hp hW => ?_)
    subst hp
    exact ze_i S hW hr hlk () rfl (by unfold v_boat; simp only [ix_nI (show i < 2 ^ 31 by omega)]; rw [if_neg (by decide), if_neg (by decide), if_neg (by decide), if_neg (by decide), if_neg (by decide), if_neg (by decide)]) (Nat.le_of_ble_eq_true rfl) (Nat.le_of_ble_eq_true rfl) dX3_boat_126
set_option maxHeartbeats 4000000 in
set_option maxRecDepth 100000 in
theorem cX3_count0_ok (l : Launch) (D : va_G) (n : Nat) (ad cy sa : Nat → Nat) (sz : Nat) (hn : 28 ≤ n) (al : Nat → Nat → Int32) (ex : Nat → va_E) (N : Nat) (hN : al 0 4 = nI N) (hN6 : N ≤ 6) (h : Nat) (hh : al 0 8 = nI h) (hh3 : h < 2 ^ 30) (q : Nat) (hq : q < 9) : Met l yX3_count wsX3_count ({ frames := 6, cells := 0, slots := 0, locals := 110 }) (PW D n ad cy sa sz (cC cy ad al ex) [.ref (ad 0), .int (nI q)]) (QDi D n ad sz (v_count al (nI q)) (cC cy ad al ex)) 0 0 (Acc n ad sz) := by
  refine zs_met (cc := cX3_count) (maxL := 2) (ret := (some .int)) (own := RX3) (by decide) rfl rfl (Nat.le_of_ble_eq_true rfl) ?_
  intro p e s m args below meth c ls S hE hW hr hlk hsz hav hl
  subst hsz
  have hx := S.1
  have hb := S.2.1
  have hown := S.2.2.2.1
  have hts := S.2.2.2.2
  have hl : lv_has ls 2 [(0, .ref (ad 0)), (1, .int (nI q))] := hl
  have hz1 : zIn (nI q) 0 8 := zIn_mk 8 rfl (by decide) hq
  have f193 := hts (.fieldLink RX3 193 "PumiceSledge" "hour" "I") (by decide +kernel)
  have hi3 : ∀ w ∈ wsX30, w ∈ wsX3_count := by decide +kernel
  have f75 := hts (.fieldLink RX3 75 "PumiceSledge" "sledgeCount" "I") (by decide +kernel)
  have f121 := hts (.fieldLink RX3 121 "PumiceSledge" "boatCount" "I") (by decide +kernel)
  have f170 := hts (.fieldLink RX3 170 "PumiceSledge" "coins" "I") (by decide +kernel)
  have f34 := hts (.fieldLink RX3 34 "PumiceSledge" "shore" "LPumiceSledge$Shore;") (by decide +kernel)
  have hi1 : ∀ w ∈ wsX10, w ∈ wsX3_count := by decide +kernel
  refine lv_iload_n hx hb dX3_count_0 rfl (lv_at hl 1 rfl) ?_
  refine lv_iconst (v := 0) hx hb dX3_count_1 (by decide) ?_
  refine lv_bipush (v := 8) hx hb dX3_count_2 (by decide) ?_
  refine z_pS (As := [.int (nI q), .int 0, .int 8]) (rest := []) S hE hW (cX3_isWithin_ok l (nI q) 0 8) (va_cwS 3 hts gX3_count_X3_isWithin rfl rfl rfl (by decide +kernel) ⟨Nat.le_of_ble_eq_true rfl, Nat.le_of_ble_eq_true rfl⟩) rfl hl.1 rfl (Nat.le_of_ble_eq_true rfl) dX3_count_4 ⟨Nat.le_of_ble_eq_true rfl, Nat.le_of_ble_eq_true rfl⟩ (fun H locs hW => ?_)
  refine lv_if_ne (tgt := 20) hx hb dX3_count_7 (by decide) (fun _ => ?_) (fun h => absurd h (zb_pt hz1))
  refine lv_iload_n hx hb dX3_count_20 rfl (lv_at hl 1 rfl) ?_
  rcases (show q = 0 ∨ q = 1 ∨ q = 2 ∨ q = 3 ∨ q = 4 ∨ q = 5 ∨ q = 6 ∨ q = 7 ∨ q = 8 by omega) with rfl | rfl | rfl | rfl | rfl | rfl | rfl | rfl | rfl
  · refine lv_tableIn (off := 47) (tgt := 68) hx hb dX3_count_21 (by decide) (by decide) rfl (by decide) ?_
    refine lv_aload_n hx hb dX3_count_68 rfl (lv_at hl 0 rfl) ?_
    refine z_get (C := RX3) (T := TX3) (N := 12) (ci := 3) S hE hW hi3 rfl (Nat.lt_of_lt_of_le (by decide) hn) cC_0 8 (by decide) rfl f193 (v := .int (al 0 8)) rfl dX3_count_69 ?_
    exact ze_i S hW hr hlk () rfl (by unfold v_count; rw [if_pos (by decide)]) (Nat.le_of_ble_eq_true rfl) (Nat.le_of_ble_eq_true rfl) dX3_count_72
  · refine lv_tableIn (off := 52) (tgt := 73) hx hb dX3_count_21 (by decide) (by decide) rfl (by decide) ?_
    refine lv_aload_n hx hb dX3_count_73 rfl (lv_at hl 0 rfl) ?_
    refine lv_aload_n hx hb dX3_count_74 rfl (lv_at hl 0 rfl) ?_
    refine z_get (C := RX3) (T := TX3) (N := 12) (ci := 3) S hE hW hi3 rfl (Nat.lt_of_lt_of_le (by decide) hn) cC_0 8 (by decide) rfl f193 (v := .int (al 0 8)) rfl dX3_count_75 ?_
    refine z_top2 (y := nI h) (hh) ?_
    refine z_cVi (As := [.int (nI h)]) (rest := []) (k := 0) S hE hW (cX3_gustAt_ok l D n ad cy sa H.size hn al ex h (by omega)) (cwV 1 hts gX3_count_X3_gustAt rfl rfl rfl (by decide +kernel) ⟨Nat.le_of_ble_eq_true rfl, Nat.le_of_ble_eq_true rfl⟩) (Nat.lt_of_lt_of_le (by decide) hn) cC_0 rfl rfl rfl hl.1 rfl (Nat.le_of_ble_eq_true rfl) dX3_count_78 ⟨Nat.le_of_ble_eq_true rfl, Nat.le_of_ble_eq_true rfl⟩ (fun r _ H locs hp hW => ?_)
    subst hp
    exact ze_i S hW hr hlk () rfl (by unfold v_count; rw [if_neg (by decide), if_pos (by decide), hh, ix_nI (show h < 2 ^ 31 by omega)]) (Nat.le_of_ble_eq_true rfl) (Nat.le_of_ble_eq_true rfl) dX3_count_81
  · refine lv_tableIn (off := 61) (tgt := 82) hx hb dX3_count_21 (by decide) (by decide) rfl (by decide) ?_
    refine lv_aload_n hx hb dX3_count_82 rfl (lv_at hl 0 rfl) ?_
    refine z_get (C := RX3) (T := TX3) (N := 12) (ci := 3) S hE hW hi3 rfl (Nat.lt_of_lt_of_le (by decide) hn) cC_0 4 (by decide) rfl f75 (v := .int (al 0 4)) rfl dX3_count_83 ?_
    exact ze_i S hW hr hlk () rfl (by unfold v_count; rw [if_neg (by decide), if_neg (by decide), if_pos (by decide)]) (Nat.le_of_ble_eq_true rfl) (Nat.le_of_ble_eq_true rfl) dX3_count_86
  · refine lv_tableIn (off := 66) (tgt := 87) hx hb dX3_count_21 (by decide) (by decide) rfl (by decide) ?_
    refine lv_aload_n hx hb dX3_count_87 rfl (lv_at hl 0 rfl) ?_
    refine z_get (C := RX3) (T := TX3) (N := 12) (ci := 3) S hE hW hi3 rfl (Nat.lt_of_lt_of_le (by decide) hn) cC_0 6 (by decide) rfl f121 (v := .int (al 0 6)) rfl dX3_count_88 ?_
    exact ze_i S hW hr hlk () rfl (by unfold v_count; rw [if_neg (by decide), if_neg (by decide), if_neg (by decide), if_pos (by decide)]) (Nat.le_of_ble_eq_true rfl) (Nat.le_of_ble_eq_true rfl) dX3_count_91
  · refine lv_tableIn (off := 71) (tgt := 92) hx hb dX3_count_21 (by decide) (by decide) rfl (by decide) ?_
    refine lv_aload_n hx hb dX3_count_92 rfl (lv_at hl 0 rfl) ?_
    refine z_get (C := RX3) (T := TX3) (N := 12) (ci := 3) S hE hW hi3 rfl (Nat.lt_of_lt_of_le (by decide) hn) cC_0 9 (by decide) rfl f170 (v := .int (al 0 9)) rfl dX3_count_93 ?_
    exact ze_i S hW hr hlk () rfl (by unfold v_count; rw [if_neg (by decide), if_neg (by decide), if_neg (by decide), if_neg (by decide), if_pos (by decide)]) (Nat.le_of_ble_eq_true rfl) (Nat.le_of_ble_eq_true rfl) dX3_count_96
  · refine lv_tableIn (off := 76) (tgt := 97) hx hb dX3_count_21 (by decide) (by decide) rfl (by decide) ?_
    refine lv_aload_n hx hb dX3_count_97 rfl (lv_at hl 0 rfl) ?_
    refine z_cVi (As := []) (rest := []) (k := 0) S hE hW (cX3_sacksAboard_ok l D n ad cy sa H.size hn al ex N hN hN6) (cwV 0 hts gX3_count_X3_sacksAboard rfl rfl rfl (by decide +kernel) ⟨Nat.le_of_ble_eq_true rfl, Nat.le_of_ble_eq_true rfl⟩) (Nat.lt_of_lt_of_le (by decide) hn) cC_0 rfl rfl rfl hl.1 rfl (Nat.le_of_ble_eq_true rfl) dX3_count_98 ⟨Nat.le_of_ble_eq_true rfl, Nat.le_of_ble_eq_true rfl⟩ (fun r _ H locs hp hW => ?_)
    subst hp
    exact ze_i S hW hr hlk () rfl (by unfold v_count; rw [if_neg (by decide), if_neg (by decide), if_neg (by decide), if_neg (by decide), if_neg (by decide), if_pos (by decide), hN, ix_nI (show N < 2 ^ 31 by omega)]) (Nat.le_of_ble_eq_true rfl) (Nat.le_of_ble_eq_true rfl) dX3_count_101
  · refine lv_tableIn (off := 81) (tgt := 102) hx hb dX3_count_21 (by decide) (by decide) rfl (by decide) ?_
    refine lv_aload_n hx hb dX3_count_102 rfl (lv_at hl 0 rfl) ?_
    refine z_get (C := RX3) (T := TX3) (N := 12) (ci := 3) S hE hW hi3 rfl (Nat.lt_of_lt_of_le (by decide) hn) cC_0 7 (by decide) rfl f34 (v := .ref (ad (6 + 0))) rfl dX3_count_103 ?_
    refine z_cVi (As := []) (rest := []) (k := (6 + 0)) S hE hW (cX1_allSacks_ok l D n ad cy sa H.size hn al ex 0 (by decide)) (cwV 0 hts gX3_count_X1_allSacks rfl rfl rfl (by decide +kernel) ⟨Nat.le_of_ble_eq_true rfl, Nat.le_of_ble_eq_true rfl⟩) (Nat.lt_of_lt_of_le (kC_h (by decide)) hn) (cC_h (i := 0) (by decide)) rfl rfl rfl hl.1 rfl (Nat.le_of_ble_eq_true rfl) dX3_count_106 ⟨Nat.le_of_ble_eq_true rfl, Nat.le_of_ble_eq_true rfl⟩ (fun r _ H locs hp hW => ?_)
    subst hp
    exact ze_i S hW hr hlk () rfl (by unfold v_count; rw [if_neg (by decide), if_neg (by decide), if_neg (by decide), if_neg (by decide), if_neg (by decide), if_neg (by decide), if_pos (by decide)]) (Nat.le_of_ble_eq_true rfl) (Nat.le_of_ble_eq_true rfl) dX3_count_109
  · refine lv_tableIn (off := 89) (tgt := 110) hx hb dX3_count_21 (by decide) (by decide) rfl (by decide) ?_
    refine lv_aload_n hx hb dX3_count_110 rfl (lv_at hl 0 rfl) ?_
    refine z_get (C := RX3) (T := TX3) (N := 12) (ci := 3) S hE hW hi3 rfl (Nat.lt_of_lt_of_le (by decide) hn) cC_0 7 (by decide) rfl f34 (v := .ref (ad (6 + 0))) rfl dX3_count_111 ?_
    refine z_getN (C := RX1) (T := TX1) (N := 2) (ci := 1) S hE hW hi1 rfl (Nat.lt_of_lt_of_le (kC_h (by decide)) hn) (cC_h (i := 0) (by decide)) 1 (by decide) rfl 4 rfl (v := .int (al (6 + 0) 1)) rfl dX3_count_114 ?_
    exact ze_i S hW hr hlk () rfl (by unfold v_count; rw [if_neg (by decide), if_neg (by decide), if_neg (by decide), if_neg (by decide), if_neg (by decide), if_neg (by decide), if_neg (by decide), if_pos (by decide)]) (Nat.le_of_ble_eq_true rfl) (Nat.le_of_ble_eq_true rfl) dX3_count_117
  · refine lv_tableOut (tgt := 118) hx hb dX3_count_21 (by decide) (by decide) ?_
    refine lv_aload_n hx hb dX3_count_118 rfl (lv_at hl 0 rfl) ?_
    refine z_cVi (As := []) (rest := []) (k := 0) S hE hW (cX3_allStones_ok l D n ad cy sa H.size hn al ex ) (cwV 0 hts gX3_count_X3_allStones rfl rfl rfl (by decide +kernel) ⟨Nat.le_of_ble_eq_true rfl, Nat.le_of_ble_eq_true rfl⟩) (Nat.lt_of_lt_of_le (by decide) hn) cC_0 rfl rfl rfl hl.1 rfl (Nat.le_of_ble_eq_true rfl) dX3_count_119 ⟨Nat.le_of_ble_eq_true rfl, Nat.le_of_ble_eq_true rfl⟩ (fun r _ H locs hp hW => ?_)
    subst hp
    exact ze_i S hW hr hlk () rfl (by unfold v_count; rw [if_neg (by decide), if_neg (by decide), if_neg (by decide), if_neg (by decide), if_neg (by decide), if_neg (by decide), if_neg (by decide), if_neg (by decide)]) (Nat.le_of_ble_eq_true rfl) (Nat.le_of_ble_eq_true rfl) dX3_count_122
