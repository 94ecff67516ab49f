/-! the calls that let hours go by or look ahead -/
def k_pass (al : Nat → Nat → Int32) (x : Int32) : Nat := if ¬ (zIn x 1 60) then 1 else 0
def u_pass (al : Nat → Nat → Int32) (x : Int32) : Nat → Nat → Int32 := hourN al (ix x)
def v_pass (al : Nat → Nat → Int32) (x : Int32) : Int32 := ash (u_pass al x) - ash al
def k_back (al : Nat → Nat → Int32) (x : Int32) : Nat := if ¬ (¬ x < 0 ∧ ¬ al 0 4 ≤ x) then 1 else 0
def v_back (al : Nat → Nat → Int32) (x : Int32) : Int32 := nI (bk (gf al) 100 0 (rowS al (ix x)))
def u_back (al : Nat → Nat → Int32) (x : Int32) : Nat → Nat → Int32 := trvT (becomeS al 6 (ix x)) 6 1 (gf al) (bk (gf al) 100 0 (rowS al (ix x)))
def k_arrives (al : Nat → Nat → Int32) (x : Int32) : Nat := if ¬ (¬ x < 0 ∧ ¬ al 0 4 ≤ x) then 1 else 0
def u_arrives (al : Nat → Nat → Int32) (x : Int32) : Nat → Nat → Int32 := if (becomeS al 6 (ix x)) (10 + 6) 4 = 2 then (becomeS al 6 (ix x)) else trvT (zup (becomeS al 6 (ix x)) (10 + 6) 4 1) 6 1 (gf al) (ar (gf al) 100 0 (rowS (zup (becomeS al 6 (ix x)) (10 + 6) 4 1) 6))
def v_arrives (al : Nat → Nat → Int32) (x : Int32) : Int32 := if (becomeS al 6 (ix x)) (10 + 6) 4 = 2 then 0 else ash1 (u_arrives al x) - ash1 (zup (becomeS al 6 (ix x)) (10 + 6) 4 1)
def k_advise (al : Nat → Nat → Int32) (x : Int32) (y : Int32) : Nat := if ¬ (¬ x < 0 ∧ ¬ al 0 6 ≤ x) then 1 else if ¬ (zIn y 0 2) then 1 else 0
def v_advise (al : Nat → Nat → Int32) (x : Int32) (y : Int32) : Int32 := if stw y ≤ ((al (24 + ix x) 0 - al (24 + ix x) 1) - al (24 + ix x) 2) then (if dep (al (24 + ix x) 1) (al (24 + ix x) 2 + stw y) < dep (al (24 + ix x) 1 + stw y) (al (24 + ix x) 2) then 2 else 1) else 0
def k_foresee (al : Nat → Nat → Int32) (x : Int32) (y : Int32) : Nat := if ¬ (zIn x 1 60) then 1 else if ¬ (zIn y 5 7) then 2 else 0
def v_foresee (al : Nat → Nat → Int32) (x : Int32) (y : Int32) : Int32 := if y = 5 then sumI (fun i => forN al (ix x) (i + 1) (10 + 6) 2) (ix (al 0 4)) else if y = 6 then ash1 (forN al (ix x) (ix (al 0 4))) else forN al (ix x) (ix (al 0 4)) (6 + 1) 1
def u_foresee (al : Nat → Nat → Int32) (x : Int32) (y : Int32) : Nat → Nat → Int32 := forN al (ix x) (ix (al 0 4))
set_option maxHeartbeats 4000000 in
set_option maxRecDepth 100000 in
theorem cX3_pass_ok (l : Launch) (D : va_G) (n : Nat) (ad cy sa : Nat → Nat) (sz : Nat) (hn : 28 ≤ n) (al : Nat → Nat → Int32) (ex : Nat → va_E) (x : Int32) (N : Nat) (hN : al 0 4 = nI N) (hN6 : N ≤ 6) (h : Nat) (hh : al 0 8 = nI h) (hh3 : h < 2 ^ 29) (hab : abOK al) (hfl : l.stackTraces = false) : vx_Met l yX3_pass wsX3_pass ({ frames := 6, cells := 1, slots := 6, locals := 126 }) (PW D n ad cy sa sz (cC cy ad al ex) [.ref (ad 0), .int x]) (QXi D n ad sz (k_pass al x) (v_pass al x) (cC cy ad (u_pass al x) ex)) (XW D n ad sz (zbad "java/lang/IllegalArgumentException" "java/lang/IllegalStateException" (k_pass al x)) (cC cy ad al ex)) 1 6 (Acc n ad sz) := by
  refine zs_vx (cc := cX3_pass) (maxL := 4) (ret := (some .int)) (own := RX3) (by decide) rfl rfl (Nat.le_of_ble_eq_true rfl) ?_
  intro p e s m args below meth c ls S hnx hE hW hr hlk hsz hav hl
  subst hsz
  have hx := S.1
  have hb := S.2.1
  have hown := S.2.2.2.1
  have hts := S.2.2.2.2
  have hl : lv_has ls 4 [(0, .ref (ad 0)), (1, .int x)] := hl
  have f34 := hts (.fieldLink RX3 34 "PumiceSledge" "shore" "LPumiceSledge$Shore;") (by decide +kernel)
  have hi3 : ∀ w ∈ wsX30, w ∈ wsX3_pass := by decide +kernel
  have x62 := hts (.classLink RX3 62 "java/lang/IllegalArgumentException") (by decide +kernel)
  have xi62 := hts (.initialized "java/lang/IllegalArgumentException") (by decide +kernel)
  refine lv_iload_n hx hb dX3_pass_0 rfl (lv_at hl 1 rfl) ?_
  refine lv_iconst (v := 1) hx hb dX3_pass_1 (by decide) ?_
  refine lv_bipush (v := 60) hx hb dX3_pass_2 (by decide) ?_
  refine z_pS (As := [.int x, .int 1, .int 60]) (rest := []) S hE hW (cX3_isWithin_ok l x 1 60) (va_cwS 3 hts gX3_pass_X3_isWithin rfl rfl rfl (by decide +kernel) ⟨Nat.le_of_ble_eq_true rfl, Nat.le_of_ble_eq_true rfl⟩) rfl hl.1 rfl (Nat.le_of_ble_eq_true rfl) dX3_pass_4 ⟨Nat.le_of_ble_eq_true rfl, Nat.le_of_ble_eq_true rfl⟩ (fun H locs hW => ?_)
  refine lv_if_ne (tgt := 20) hx hb dX3_pass_7 (by decide) (fun c7 => ?_) (fun c7 => ?_)
  · have c7 := zb_t c7
    obtain ⟨T, hT1, hT60, rfl⟩ := zIn_ex1 1 60 rfl rfl (by decide) (by decide) c7
    refine lv_aload_n hx hb dX3_pass_20 rfl (lv_at hl 0 rfl) ?_
    refine z_get (C := RX3) (T := TX3) (N := 12) (ci := 3) S hE hW hi3 rfl (Nat.lt_of_lt_of_le (by decide) hn) cC_0 7 (by decide) rfl f34 (v := .ref (ad (6 + 0))) rfl dX3_pass_21 ?_
    refine z_cVi (As := []) (rest := []) (k := (6 + 0)) S hE hW (cX1_allSacks_ok l D n ad cy sa H.size hn al ex 0 (by decide)) (cwV 0 hts gX3_pass_X1_allSacks rfl rfl rfl (by decide +kernel) ⟨Nat.le_of_ble_eq_true rfl, Nat.le_of_ble_eq_true rfl⟩) (Nat.lt_of_lt_of_le (kC_h (by decide)) hn) (cC_h (i := 0) (by decide)) rfl rfl rfl hl.1 rfl (Nat.le_of_ble_eq_true rfl) dX3_pass_24 ⟨Nat.le_of_ble_eq_true rfl, Nat.le_of_ble_eq_true rfl⟩ (fun r _ H locs hp hW => ?_)
    subst hp
    refine lv_istore_n (lv' := [(2, .int ((al (8 + 0) 0 + al (8 + 0) 1) + al (8 + 0) 2)), (0, .ref (ad 0)), (1, .int (nI T))]) hx hb dX3_pass_27 rfl hl (by decide) rfl (fun ls hl => ?_)
    refine lv_iconst (v := 0) hx hb dX3_pass_28 (by decide) ?_
    refine lv_istore_n (lv' := [(3, .int 0), (2, .int ((al (8 + 0) 0 + al (8 + 0) 1) + al (8 + 0) 2)), (0, .ref (ad 0)), (1, .int (nI T))]) hx hb dX3_pass_29 rfl hl (by decide) rfl (fun ls hl => ?_)
    have L30 : ∀ (kq j : Nat) (H : Heap) (locs : List Loc) (ls : Array Slot), j + kq = T → WS D n ad (cC cy ad (hourN al j) ex) (Acc n ad s.heap.size) s.heap H locs → lv_has ls 4 [(0, .ref (ad 0)), (1, .int (nI T)), (2, .int (ash al)), (3, .int (nI j))] → W p l e { frames := 6, cells := 1, slots := 6, locals := 126 } s m args below meth c H locs 0 0 (vx_MQ below (QXi D n ad s.heap.size (k_pass al (nI T)) (v_pass al (nI T)) (cC cy ad (u_pass al (nI T)) ex)) (XW D n ad s.heap.size (zbad "java/lang/IllegalArgumentException" "java/lang/IllegalStateException" (k_pass al (nI T))) (cC cy ad al ex)) args s 1 6 (Acc n ad s.heap.size)) (F0 m 30 ls []) := by
      intro kq
      induction kq with
      | zero =>
        intro j H locs ls hjk hW hl
        have hjN : j = T := by omega
        try rw [hjN] at hW
        try rw [hjN] at hl
        refine lv_iload_n hx hb dX3_pass_30 rfl (lv_at hl 3 rfl) ?_
        refine lv_iload_n hx hb dX3_pass_31 rfl (lv_at hl 1 rfl) ?_
        refine lv_icmp_ge (tgt := 45) hx hb dX3_pass_32 (by decide) (fun _ => ?_) (fun h => absurd (nI_le (Nat.le_refl T) (by omega)) h)
        refine lv_aload_n hx hb dX3_pass_45 rfl (lv_at hl 0 rfl) ?_
        refine z_get (C := RX3) (T := TX3) (N := 12) (ci := 3) S hE hW hi3 rfl (Nat.lt_of_lt_of_le (by decide) hn) cC_0 7 (by decide) rfl f34 (v := .ref (ad (6 + 0))) rfl dX3_pass_46 ?_
        refine z_cVi (As := []) (rest := []) (k := (6 + 0)) S hE hW (cX1_allSacks_ok l D n ad cy sa H.size hn (hourN al T) ex 0 (by decide)) (cwV 0 hts gX3_pass_X1_allSacks rfl rfl rfl (by decide +kernel) ⟨Nat.le_of_ble_eq_true rfl, Nat.le_of_ble_eq_true rfl⟩) (Nat.lt_of_lt_of_le (kC_h (by decide)) hn) (cC_h (i := 0) (by decide)) rfl rfl rfl hl.1 rfl (Nat.le_of_ble_eq_true rfl) dX3_pass_49 ⟨Nat.le_of_ble_eq_true rfl, Nat.le_of_ble_eq_true rfl⟩ (fun r _ H locs hp hW => ?_)
        subst hp
        refine lv_iload_n hx hb dX3_pass_52 rfl (lv_at hl 2 rfl) ?_
        refine lv_isub hx hb dX3_pass_53 ?_
        exact zx_i S hW hr hlk () (congrArg (fun z => cC cy ad z ex) (by unfold u_pass; rw [ix_nI (show T < 2 ^ 31 by omega)])) ⟨(by unfold k_pass; rw [if_neg (fun h => h c7)]), (by unfold v_pass u_pass; rw [ix_nI (show T < 2 ^ 31 by omega)]; rfl)⟩ (Nat.le_of_ble_eq_true rfl) (Nat.le_of_ble_eq_true rfl) dX3_pass_54
      | succ kq ih =>
        intro j H locs ls hjk hW hl
        have hj : j < T := by omega
        obtain ⟨i1, i2, i3⟩ := hourN_inv hN hN6 hh hab j
        refine lv_iload_n hx hb dX3_pass_30 rfl (lv_at hl 3 rfl) ?_
        refine lv_iload_n hx hb dX3_pass_31 rfl (lv_at hl 1 rfl) ?_
        refine lv_icmp_ge (tgt := 45) hx hb dX3_pass_32 (by decide) (fun h => absurd h (nI_ge hj (by omega))) (fun _ => ?_)
        refine lv_aload_n hx hb dX3_pass_35 rfl (lv_at hl 0 rfl) ?_
        refine z_cVv (As := []) (rest := []) (k := 0) S hE hW (cX3_passOneHour_ok l D n ad cy sa H.size hn (hourN al j) ex N i1 hN6 (h + j) i2 (by omega) i3) (cwV 0 hts gX3_pass_X3_passOneHour rfl rfl rfl (by decide +kernel) ⟨Nat.le_of_ble_eq_true rfl, Nat.le_of_ble_eq_true rfl⟩) (Nat.lt_of_lt_of_le (by decide) hn) cC_0 rfl rfl rfl hl.1 rfl (Nat.le_of_ble_eq_true rfl) dX3_pass_36 ⟨Nat.le_of_ble_eq_true rfl, Nat.le_of_ble_eq_true rfl⟩ (fun _ H locs _ hW => ?_)
        refine lv_iinc (v := nI (j + 1)) (lv' := [(3, .int (nI (j + 1))), (0, .ref (ad 0)), (1, .int (nI T)), (2, .int (ash al))]) hx hb dX3_pass_39 hl (k := 3) rfl (nI_1 _) (by decide) rfl (fun ls hl => ?_)
        refine lv_goto (tgt := 30) hx hb dX3_pass_42 (by decide) ?_
        exact ih (j + 1) H locs ls (by omega) hW (lv_sub hl [1, 2, 3, 0] rfl)
    exact L30 (T) 0 _ _ ls (by omega) hW (lv_sub hl [2, 3, 1, 0] rfl)
  · have c7 := zb_f c7
    exact z_throw (E := "java/lang/IllegalArgumentException") 22 S hnx hE hW hfl (by decide) x62 xi62 (fun _ h => List.mem_cons_of_mem _ (List.mem_append_right _ h)) z_castA z_otA rfl hl.1 dX3_pass_10 dX3_pass_13 dX3_pass_14 dX3_pass_16 dX3_pass_19 ⟨Nat.le_of_ble_eq_true rfl, Nat.le_of_ble_eq_true rfl, Nat.le_of_ble_eq_true rfl, Nat.le_of_ble_eq_true rfl⟩ hlk (Nat.le_of_ble_eq_true rfl) (Nat.le_of_ble_eq_true rfl) (Or.inl ⟨rfl, (by unfold k_pass; rw [if_pos c7])⟩)
set_option maxHeartbeats 4000000 in
set_option maxRecDepth 100000 in
theorem cX3_back_ok (l : Launch) (D : va_G) (n : Nat) (ad cy sa : Nat → Nat) (sz : Nat) (hn : 28 ≤ n) (al : Nat → Nat → Int32) (ex : Nat → va_E) (x : Int32) (N : Nat) (hN : al 0 4 = nI N) (hN6 : N ≤ 6) (h : Nat) (hh : al 0 8 = nI h) (hh3 : h < 2 ^ 29) (hab : abOK al) (hfl : l.stackTraces = false) : vx_Met l yX3_back wsX3_back ({ frames := 6, cells := 1, slots := 6, locals := 110 }) (PW D n ad cy sa sz (cC cy ad al ex) [.ref (ad 0), .int x]) (QXi D n ad sz (k_back al x) (v_back al x) (cC cy ad (u_back al x) ex)) (XW D n ad sz (zbad "java/lang/IndexOutOfBoundsException" "java/lang/IllegalArgumentException" (k_back al x)) (cC cy ad al ex)) 1 6 (Acc n ad sz) := by
  refine zs_vx (cc := cX3_back) (maxL := 3) (ret := (some .int)) (own := RX3) (by decide) rfl rfl (Nat.le_of_ble_eq_true rfl) ?_
  intro p e s m args below meth c ls S hnx hE hW hr hlk hsz hav hl
  subst hsz
  have hx := S.1
  have hb := S.2.1
  have hown := S.2.2.2.1
  have hts := S.2.2.2.2
  have hl : lv_has ls 3 [(0, .ref (ad 0)), (1, .int x)] := hl
  have f39 := hts (.fieldLink RX3 39 "PumiceSledge" "trial" "LPumiceSledge$Sledge;") (by decide +kernel)
  have hi3 : ∀ w ∈ wsX30, w ∈ wsX3_back := by decide +kernel
  have f21 := hts (.fieldLink RX3 21 "PumiceSledge" "sledges" "[LPumiceSledge$Sledge;") (by decide +kernel)
  have hi2 : ∀ w ∈ wsX20, w ∈ wsX3_back := by decide +kernel
  have f193 := hts (.fieldLink RX3 193 "PumiceSledge" "hour" "I") (by decide +kernel)
  have f43 := hts (.fieldLink RX3 43 "PumiceSledge" "trialShore" "LPumiceSledge$Shore;") (by decide +kernel)
  have x51 := hts (.classLink RX3 51 "java/lang/IndexOutOfBoundsException") (by decide +kernel)
  have xi51 := hts (.initialized "java/lang/IndexOutOfBoundsException") (by decide +kernel)
  refine lv_aload_n hx hb dX3_back_0 rfl (lv_at hl 0 rfl) ?_
  refine lv_iload_n hx hb dX3_back_1 rfl (lv_at hl 1 rfl) ?_
  refine z_cVi (As := [.int x]) (rest := []) (k := 0) S hE hW (cX3_isSledge_ok l D n ad cy sa s.heap.size hn al ex x) (cwV 1 hts gX3_back_X3_isSledge rfl rfl rfl (by decide +kernel) ⟨Nat.le_of_ble_eq_true rfl, Nat.le_of_ble_eq_true rfl⟩) (Nat.lt_of_lt_of_le (by decide) hn) cC_0 rfl rfl rfl hl.1 rfl (Nat.le_of_ble_eq_true rfl) dX3_back_2 ⟨Nat.le_of_ble_eq_true rfl, Nat.le_of_ble_eq_true rfl⟩ (fun r _ H locs hp hW => ?_)
  subst hp
  refine lv_if_ne (tgt := 18) hx hb dX3_back_5 (by decide) (fun c5 => ?_) (fun c5 => ?_)
  · have c5 := zb_t c5
    obtain ⟨i, hi, rfl⟩ := zS_ex hN (by omega) c5
    obtain ⟨a, ha, ha8⟩ := hab i (by omega)
    refine lv_aload_n hx hb dX3_back_18 rfl (lv_at hl 0 rfl) ?_
    refine z_get (C := RX3) (T := TX3) (N := 12) (ci := 3) S hE hW hi3 rfl (Nat.lt_of_lt_of_le (by decide) hn) cC_0 10 (by decide) rfl f39 (v := .ref (ad (10 + 6))) rfl dX3_back_19 ?_
    refine lv_aload_n hx hb dX3_back_22 rfl (lv_at hl 0 rfl) ?_
    refine z_get (C := RX3) (T := TX3) (N := 12) (ci := 3) S hE hW hi3 rfl (Nat.lt_of_lt_of_le (by decide) hn) cC_0 3 (by decide) rfl f21 (v := .ref (ad 4)) rfl dX3_back_23 ?_
    refine lv_iload_n hx hb dX3_back_26 rfl (lv_at hl 1 rfl) ?_
    refine z_aldq (t0 := 1) (C := RX2) S hE hW (Nat.lt_of_lt_of_le (by decide) hn) cC_4 rfl i rfl (by omega) (by decide) (v := .ref (ad (10 + i))) rfl dX3_back_27 ?_
    refine z_cVv (As := [.ref (ad (10 + i))]) (rest := []) (k := (10 + 6)) S hE hW (cX2_become_ok l D n ad cy sa H.size hn al ex 6 (by decide) i (by omega) (by omega)) (cwV 1 hts gX3_back_X2_become rfl rfl rfl (by decide +kernel) ⟨Nat.le_of_ble_eq_true rfl, Nat.le_of_ble_eq_true rfl⟩) (Nat.lt_of_lt_of_le (kC_s (by decide)) hn) (cC_s (i := 6) (by decide)) rfl rfl rfl hl.1 rfl (Nat.le_of_ble_eq_true rfl) dX3_back_28 ⟨Nat.le_of_ble_eq_true rfl, Nat.le_of_ble_eq_true rfl⟩ (fun _ H locs _ hW => ?_)
    refine lv_iconst (v := 0) hx hb dX3_back_31 (by decide) ?_
    refine lv_istore_n (lv' := [(2, .int 0), (0, .ref (ad 0)), (1, .int (nI i))]) hx hb dX3_back_32 rfl hl (by decide) rfl (fun ls hl => ?_)
    have L33 : ∀ (kq j : Nat) (hv : bk (gf al) 100 0 (rowS al i) = j + bk (gf al) kq j (rowS (trvT (becomeS al 6 i) 6 1 (gf al) j) 6)) (H : Heap) (locs : List Loc) (ls : Array Slot), j + kq = 100 → WS D n ad (cC cy ad (trvT (becomeS al 6 i) 6 1 (gf al) j) ex) (Acc n ad s.heap.size) s.heap H locs → lv_has ls 3 [(0, .ref (ad 0)), (1, .int (nI i)), (2, .int (nI j))] → W p l e { frames := 6, cells := 1, slots := 6, locals := 110 } s m args below meth c H locs 0 0 (vx_MQ below (QXi D n ad s.heap.size (k_back al (nI i)) (v_back al (nI i)) (cC cy ad (u_back al (nI i)) ex)) (XW D n ad s.heap.size (zbad "java/lang/IndexOutOfBoundsException" "java/lang/IllegalArgumentException" (k_back al (nI i))) (cC cy ad al ex)) args s 1 6 (Acc n ad s.heap.size)) (F0 m 33 ls []) := by
      intro kq
      induction kq with
      | zero =>
        intro j hv H locs ls hjk hW hl
        have hjN : j = 100 := by omega
        try rw [hjN] at hW
        try rw [hjN] at hl
        have hJ : bk (gf al) 100 0 (rowS al i) = 100 := by rw [hv, hjN]; rfl
        refine lv_aload_n hx hb dX3_back_33 rfl (lv_at hl 0 rfl) ?_
        refine z_get (C := RX3) (T := TX3) (N := 12) (ci := 3) S hE hW hi3 rfl (Nat.lt_of_lt_of_le (by decide) hn) cC_0 10 (by decide) rfl f39 (v := .ref (ad (10 + 6))) rfl dX3_back_34 ?_
        refine z_getN (C := RX2) (T := TX2) (N := 5) (ci := 2) S hE hW hi2 rfl (Nat.lt_of_lt_of_le (kC_s (by decide)) hn) (cC_s (i := 6) (by decide)) 4 (by decide) rfl 10 rfl (v := .int ((trvT (becomeS al 6 i) 6 1 (gf al) 100) (10 + 6) 4)) rfl dX3_back_37 ?_
        refine lv_if_eq (tgt := 76) hx hb dX3_back_40 (by decide) (fun c40 => ?_) (fun c40 => ?_)
        · refine lv_iload_n hx hb dX3_back_76 rfl (lv_at hl 2 rfl) ?_
          exact zx_i S hW hr hlk () (congrArg (fun z => cC cy ad z ex) (by unfold u_back; rw [ix_nI (show i < 2 ^ 31 by omega), hJ])) ⟨(by unfold k_back; rw [if_neg (fun h => h c5)]), (by unfold v_back; rw [ix_nI (show i < 2 ^ 31 by omega), hJ])⟩ (Nat.le_of_ble_eq_true rfl) (Nat.le_of_ble_eq_true rfl) dX3_back_77
        · refine lv_iload_n hx hb dX3_back_43 rfl (lv_at hl 2 rfl) ?_
          refine lv_bipush (v := 100) hx hb dX3_back_44 (by decide) ?_
          refine lv_icmp_ge (tgt := 76) hx hb dX3_back_46 (by decide) (fun _ => ?_) (fun h => absurd (by decide) h)
          refine lv_iload_n hx hb dX3_back_76 rfl (lv_at hl 2 rfl) ?_
          exact zx_i S hW hr hlk () (congrArg (fun z => cC cy ad z ex) (by unfold u_back; rw [ix_nI (show i < 2 ^ 31 by omega), hJ])) ⟨(by unfold k_back; rw [if_neg (fun h => h c5)]), (by unfold v_back; rw [ix_nI (show i < 2 ^ 31 by omega), hJ])⟩ (Nat.le_of_ble_eq_true rfl) (Nat.le_of_ble_eq_true rfl) dX3_back_77
      | succ kq ih =>
        intro j hv H locs ls hjk hW hl
        have hj : j < 100 := by omega
        obtain ⟨a1, haa, ha9⟩ := trvT_ab (al := (becomeS al 6 i)) (sh := 1) (g := gf al) (by decide) (becomeS_2.trans ha) ha8 j
        refine lv_aload_n hx hb dX3_back_33 rfl (lv_at hl 0 rfl) ?_
        refine z_get (C := RX3) (T := TX3) (N := 12) (ci := 3) S hE hW hi3 rfl (Nat.lt_of_lt_of_le (by decide) hn) cC_0 10 (by decide) rfl f39 (v := .ref (ad (10 + 6))) rfl dX3_back_34 ?_
        refine z_getN (C := RX2) (T := TX2) (N := 5) (ci := 2) S hE hW hi2 rfl (Nat.lt_of_lt_of_le (kC_s (by decide)) hn) (cC_s (i := 6) (by decide)) 4 (by decide) rfl 10 rfl (v := .int ((trvT (becomeS al 6 i) 6 1 (gf al) j) (10 + 6) 4)) rfl dX3_back_37 ?_
        refine lv_if_eq (tgt := 76) hx hb dX3_back_40 (by decide) (fun c40 => ?_) (fun c40 => ?_)
        · have hJ : bk (gf al) 100 0 (rowS al i) = j := by rw [hv, show bk (gf al) (kq + 1) j (rowS (trvT (becomeS al 6 i) 6 1 (gf al) j) 6) = 0 from if_pos c40]; rfl
          refine lv_iload_n hx hb dX3_back_76 rfl (lv_at hl 2 rfl) ?_
          exact zx_i S hW hr hlk () (congrArg (fun z => cC cy ad z ex) (by unfold u_back; rw [ix_nI (show i < 2 ^ 31 by omega), hJ])) ⟨(by unfold k_back; rw [if_neg (fun h => h c5)]), (by unfold v_back; rw [ix_nI (show i < 2 ^ 31 by omega), hJ])⟩ (Nat.le_of_ble_eq_true rfl) (Nat.le_of_ble_eq_true rfl) dX3_back_77
        · have hv2 : bk (gf al) 100 0 (rowS al i) = (j + 1) + bk (gf al) kq (j + 1) (rowS (trvT (becomeS al 6 i) 6 1 (gf al) (j + 1)) 6) := by rw [hv, show bk (gf al) (kq + 1) j (rowS (trvT (becomeS al 6 i) 6 1 (gf al) j) 6) = bk (gf al) kq (j + 1) (trv (rowS (trvT (becomeS al 6 i) 6 1 (gf al) j) 6) (gf al j)) + 1 from if_neg c40, show rowS (trvT (becomeS al 6 i) 6 1 (gf al) (j + 1)) 6 = trv (rowS (trvT (becomeS al 6 i) 6 1 (gf al) j) 6) (gf al j) from rowS_travel (by decide)]; omega
          refine lv_iload_n hx hb dX3_back_43 rfl (lv_at hl 2 rfl) ?_
          refine lv_bipush (v := 100) hx hb dX3_back_44 (by decide) ?_
          refine lv_icmp_ge (tgt := 76) hx hb dX3_back_46 (by decide) (fun h => absurd h (nI_ge (b := 100) hj (by decide))) (fun _ => ?_)
          refine lv_aload_n hx hb dX3_back_49 rfl (lv_at hl 0 rfl) ?_
          refine z_get (C := RX3) (T := TX3) (N := 12) (ci := 3) S hE hW hi3 rfl (Nat.lt_of_lt_of_le (by decide) hn) cC_0 10 (by decide) rfl f39 (v := .ref (ad (10 + 6))) rfl dX3_back_50 ?_
          refine lv_aload_n hx hb dX3_back_53 rfl (lv_at hl 0 rfl) ?_
          refine lv_aload_n hx hb dX3_back_54 rfl (lv_at hl 0 rfl) ?_
          refine z_get (C := RX3) (T := TX3) (N := 12) (ci := 3) S hE hW hi3 rfl (Nat.lt_of_lt_of_le (by decide) hn) cC_0 8 (by decide) rfl f193 (v := .int (nI h)) (congrArg (fun z => some (Value.int z)) (((congrFun (trvT_o (by omega) (by omega) (by omega) j) 8).trans (congrFun (becomeS_o (by omega) (by omega)) 8)).trans hh)) dX3_back_55 ?_
          refine lv_iload_n hx hb dX3_back_58 rfl (lv_at hl 2 rfl) ?_
          refine lv_iadd hx hb dX3_back_59 ?_
          refine z_top2 (y := nI (h + j)) (nI_add h j) ?_
          refine z_cVi (As := [.int (nI (h + j))]) (rest := [.ref (ad (10 + 6))]) (k := 0) S hE hW (cX3_gustAt_ok l D n ad cy sa H.size hn (trvT (becomeS al 6 i) 6 1 (gf al) j) ex (h + j) (by omega)) (cwV 1 hts gX3_back_X3_gustAt rfl rfl rfl (by decide +kernel) ⟨Nat.le_of_ble_eq_true rfl, Nat.le_of_ble_eq_true rfl⟩) (Nat.lt_of_lt_of_le (by decide) hn) cC_0 rfl rfl rfl hl.1 rfl (Nat.le_of_ble_eq_true rfl) dX3_back_60 ⟨Nat.le_of_ble_eq_true rfl, Nat.le_of_ble_eq_true rfl⟩ (fun r _ H locs hp hW => ?_)
          subst hp
          refine z_top2 (y := gf al j) ((congrFun ((trvT_o (by omega) (by omega) (by omega) j).trans (becomeS_o (by omega) (by omega))) _).trans (congrFun (gf_eq hh (by omega)) j).symm) ?_
          refine lv_aload_n hx hb dX3_back_63 rfl (lv_at hl 0 rfl) ?_
          refine z_get (C := RX3) (T := TX3) (N := 12) (ci := 3) S hE hW hi3 rfl (Nat.lt_of_lt_of_le (by decide) hn) cC_0 11 (by decide) rfl f43 (v := .ref (ad (6 + 1))) rfl dX3_back_64 ?_
          refine z_cVv (As := [.int (gf al j), .ref (ad (6 + 1))]) (rest := []) (k := (10 + 6)) S hE hW (cX2_travel_ok l D n ad cy sa H.size hn (trvT (becomeS al 6 i) 6 1 (gf al) j) ex 6 (by decide) 1 (by decide) a1 ha9 (by omega) (gf al j)) (cwV 2 hts gX3_back_X2_travel rfl rfl rfl (by decide +kernel) ⟨Nat.le_of_ble_eq_true rfl, Nat.le_of_ble_eq_true rfl⟩) (Nat.lt_of_lt_of_le (kC_s (by decide)) hn) (cC_s (i := 6) (by decide)) rfl rfl rfl hl.1 rfl (Nat.le_of_ble_eq_true rfl) dX3_back_67 ⟨Nat.le_of_ble_eq_true rfl, Nat.le_of_ble_eq_true rfl⟩ (fun _ H locs _ hW => ?_)
          refine lv_iinc (v := nI (j + 1)) (lv' := [(2, .int (nI (j + 1))), (0, .ref (ad 0)), (1, .int (nI i))]) hx hb dX3_back_70 hl (k := 2) rfl (nI_1 _) (by decide) rfl (fun ls hl => ?_)
          refine lv_goto (tgt := 33) hx hb dX3_back_73 (by decide) ?_
          exact ih (j + 1) hv2 H locs ls (by omega) hW (lv_sub hl [1, 2, 0] rfl)
    exact L33 (100) 0 (by rw [Nat.zero_add]; exact (congrArg (bk (gf al) 100 0) becomeS_row.symm)) _ _ ls (by omega) hW (lv_sub hl [1, 2, 0] rfl)
  · have c5 := zb_f c5
    exact z_throw (E := "java/lang/IndexOutOfBoundsException") 7 S hnx hE hW hfl (by decide) x51 xi51 (fun _ h => List.mem_cons_of_mem _ (List.mem_append_right _ h)) z_castI z_otI rfl hl.1 dX3_back_8 dX3_back_11 dX3_back_12 dX3_back_14 dX3_back_17 ⟨Nat.le_of_ble_eq_true rfl, Nat.le_of_ble_eq_true rfl, Nat.le_of_ble_eq_true rfl, Nat.le_of_ble_eq_true rfl⟩ hlk (Nat.le_of_ble_eq_true rfl) (Nat.le_of_ble_eq_true rfl) (Or.inl ⟨rfl, (by unfold k_back; rw [if_pos c5])⟩)
set_option maxHeartbeats 4000000 in
set_option maxRecDepth 100000 in
theorem cX3_arrives_ok (l : Launch) (D : va_G) (n : Nat) (ad cy sa : Nat → Nat) (sz : Nat) (hn : 28 ≤ n) (al : Nat → Nat → Int32) (ex : Nat → va_E) (x : Int32) (N : Nat) (hN : al 0 4 = nI N) (hN6 : N ≤ 6) (h : Nat) (hh : al 0 8 = nI h) (hh3 : h < 2 ^ 29) (hab : abOK al) (hfl : l.stackTraces = false) : vx_Met l yX3_arrives wsX3_arrives ({ frames := 6, cells := 1, slots := 6, locals := 110 }) (PW D n ad cy sa sz (cC cy ad al ex) [.ref (ad 0), .int x]) (QXi D n ad sz (k_arrives al x) (v_arrives al x) (cC cy ad (u_arrives al x) ex)) (XW D n ad sz (zbad "java/lang/IndexOutOfBoundsException" "java/lang/IllegalArgumentException" (k_arrives al x)) (cC cy ad al ex)) 1 6 (Acc n ad sz) := by
  refine zs_vx (cc := cX3_arrives) (maxL := 4) (ret := (some .int)) (own := RX3) (by decide) rfl rfl (Nat.le_of_ble_eq_true rfl) ?_
  intro p e s m args below meth c ls S hnx hE hW hr hlk hsz hav hl
  subst hsz
  have hx := S.1
  have hb := S.2.1
  have hown := S.2.2.2.1
  have hts := S.2.2.2.2
  have hl : lv_has ls 4 [(0, .ref (ad 0)), (1, .int x)] := hl
  have f39 := hts (.fieldLink RX3 39 "PumiceSledge" "trial" "LPumiceSledge$Sledge;") (by decide +kernel)
  have hi3 : ∀ w ∈ wsX30, w ∈ wsX3_arrives := by decide +kernel
  have f21 := hts (.fieldLink RX3 21 "PumiceSledge" "sledges" "[LPumiceSledge$Sledge;") (by decide +kernel)
  have hi2 : ∀ w ∈ wsX20, w ∈ wsX3_arrives := by decide +kernel
  have f43 := hts (.fieldLink RX3 43 "PumiceSledge" "trialShore" "LPumiceSledge$Shore;") (by decide +kernel)
  have f193 := hts (.fieldLink RX3 193 "PumiceSledge" "hour" "I") (by decide +kernel)
  have x51 := hts (.classLink RX3 51 "java/lang/IndexOutOfBoundsException") (by decide +kernel)
  have xi51 := hts (.initialized "java/lang/IndexOutOfBoundsException") (by decide +kernel)
  refine lv_aload_n hx hb dX3_arrives_0 rfl (lv_at hl 0 rfl) ?_
  refine lv_iload_n hx hb dX3_arrives_1 rfl (lv_at hl 1 rfl) ?_
  refine z_cVi (As := [.int x]) (rest := []) (k := 0) S hE hW (cX3_isSledge_ok l D n ad cy sa s.heap.size hn al ex x) (cwV 1 hts gX3_arrives_X3_isSledge rfl rfl rfl (by decide +kernel) ⟨Nat.le_of_ble_eq_true rfl, Nat.le_of_ble_eq_true rfl⟩) (Nat.lt_of_lt_of_le (by decide) hn) cC_0 rfl rfl rfl hl.1 rfl (Nat.le_of_ble_eq_true rfl) dX3_arrives_2 ⟨Nat.le_of_ble_eq_true rfl, Nat.le_of_ble_eq_true rfl⟩ (fun r _ H locs hp hW => ?_)
  subst hp
  refine lv_if_ne (tgt := 18) hx hb dX3_arrives_5 (by decide) (fun c5 => ?_) (fun c5 => ?_)
  · have c5 := zb_t c5
    obtain ⟨i, hi, rfl⟩ := zS_ex hN (by omega) c5
    obtain ⟨a, ha, ha8⟩ := hab i (by omega)
    refine lv_aload_n hx hb dX3_arrives_18 rfl (lv_at hl 0 rfl) ?_
    refine z_get (C := RX3) (T := TX3) (N := 12) (ci := 3) S hE hW hi3 rfl (Nat.lt_of_lt_of_le (by decide) hn) cC_0 10 (by decide) rfl f39 (v := .ref (ad (10 + 6))) rfl dX3_arrives_19 ?_
    refine lv_aload_n hx hb dX3_arrives_22 rfl (lv_at hl 0 rfl) ?_
    refine z_get (C := RX3) (T := TX3) (N := 12) (ci := 3) S hE hW hi3 rfl (Nat.lt_of_lt_of_le (by decide) hn) cC_0 3 (by decide) rfl f21 (v := .ref (ad 4)) rfl dX3_arrives_23 ?_
    refine lv_iload_n hx hb dX3_arrives_26 rfl (lv_at hl 1 rfl) ?_
    refine z_aldq (t0 := 1) (C := RX2) S hE hW (Nat.lt_of_lt_of_le (by decide) hn) cC_4 rfl i rfl (by omega) (by decide) (v := .ref (ad (10 + i))) rfl dX3_arrives_27 ?_
    refine z_cVv (As := [.ref (ad (10 + i))]) (rest := []) (k := (10 + 6)) S hE hW (cX2_become_ok l D n ad cy sa H.size hn al ex 6 (by decide) i (by omega) (by omega)) (cwV 1 hts gX3_arrives_X2_become rfl rfl rfl (by decide +kernel) ⟨Nat.le_of_ble_eq_true rfl, Nat.le_of_ble_eq_true rfl⟩) (Nat.lt_of_lt_of_le (kC_s (by decide)) hn) (cC_s (i := 6) (by decide)) rfl rfl rfl hl.1 rfl (Nat.le_of_ble_eq_true rfl) dX3_arrives_28 ⟨Nat.le_of_ble_eq_true rfl, Nat.le_of_ble_eq_true rfl⟩ (fun _ H locs _ hW => ?_)
    refine lv_aload_n hx hb dX3_arrives_31 rfl (lv_at hl 0 rfl) ?_
    refine z_get (C := RX3) (T := TX3) (N := 12) (ci := 3) S hE hW hi3 rfl (Nat.lt_of_lt_of_le (by decide) hn) cC_0 10 (by decide) rfl f39 (v := .ref (ad (10 + 6))) rfl dX3_arrives_32 ?_
    refine z_getN (C := RX2) (T := TX2) (N := 5) (ci := 2) S hE hW hi2 rfl (Nat.lt_of_lt_of_le (kC_s (by decide)) hn) (cC_s (i := 6) (by decide)) 4 (by decide) rfl 10 rfl (v := .int ((becomeS al 6 i) (10 + 6) 4)) rfl dX3_arrives_35 ?_
    refine lv_iconst (v := 2) hx hb dX3_arrives_38 (by decide) ?_
    refine lv_icmp_ne (tgt := 44) hx hb dX3_arrives_39 (by decide) (fun c39 => ?_) (fun c39 => ?_)
    · refine lv_aload_n hx hb dX3_arrives_44 rfl (lv_at hl 0 rfl) ?_
      refine z_get (C := RX3) (T := TX3) (N := 12) (ci := 3) S hE hW hi3 rfl (Nat.lt_of_lt_of_le (by decide) hn) cC_0 10 (by decide) rfl f39 (v := .ref (ad (10 + 6))) rfl dX3_arrives_45 ?_
      refine lv_iconst (v := 1) hx hb dX3_arrives_48 (by decide) ?_
      refine z_putN (ce' := cC cy ad (zup (becomeS al 6 i) (10 + 6) 4 1) ex) (C := RX2) (T := TX2) (N := 5) (ci := 2) S hE hW hi2 tyX2 tyX2_ok nmX2 rfl (Nat.lt_of_lt_of_le (kC_s (by decide)) hn) (cC_s (i := 6) (by decide)) 4 (by decide) rfl 10 rfl rfl rfl (Nat.le_of_ble_eq_true rfl) (pC_s (i := 6) (by decide) (by decide)) (fun j h => cC_o h) dX3_arrives_49 (fun H locs hW => ?_)
      refine lv_aload_n hx hb dX3_arrives_52 rfl (lv_at hl 0 rfl) ?_
      refine z_get (C := RX3) (T := TX3) (N := 12) (ci := 3) S hE hW hi3 rfl (Nat.lt_of_lt_of_le (by decide) hn) cC_0 11 (by decide) rfl f43 (v := .ref (ad (6 + 1))) rfl dX3_arrives_53 ?_
      refine z_cVi (As := []) (rest := []) (k := (6 + 1)) S hE hW (cX1_allSacks_ok l D n ad cy sa H.size hn (zup (becomeS al 6 i) (10 + 6) 4 1) ex 1 (by decide)) (cwV 0 hts gX3_arrives_X1_allSacks rfl rfl rfl (by decide +kernel) ⟨Nat.le_of_ble_eq_true rfl, Nat.le_of_ble_eq_true rfl⟩) (Nat.lt_of_lt_of_le (kC_h (by decide)) hn) (cC_h (i := 1) (by decide)) rfl rfl rfl hl.1 rfl (Nat.le_of_ble_eq_true rfl) dX3_arrives_56 ⟨Nat.le_of_ble_eq_true rfl, Nat.le_of_ble_eq_true rfl⟩ (fun r _ H locs hp hW => ?_)
      subst hp
      refine lv_istore_n (lv' := [(2, .int (((zup (becomeS al 6 i) (10 + 6) 4 1) (8 + 1) 0 + (zup (becomeS al 6 i) (10 + 6) 4 1) (8 + 1) 1) + (zup (becomeS al 6 i) (10 + 6) 4 1) (8 + 1) 2)), (0, .ref (ad 0)), (1, .int (nI i))]) hx hb dX3_arrives_59 rfl hl (by decide) rfl (fun ls hl => ?_)
      refine lv_iconst (v := 0) hx hb dX3_arrives_60 (by decide) ?_
      refine lv_istore_n (lv' := [(3, .int 0), (2, .int (((zup (becomeS al 6 i) (10 + 6) 4 1) (8 + 1) 0 + (zup (becomeS al 6 i) (10 + 6) 4 1) (8 + 1) 1) + (zup (becomeS al 6 i) (10 + 6) 4 1) (8 + 1) 2)), (0, .ref (ad 0)), (1, .int (nI i))]) hx hb dX3_arrives_61 rfl hl (by decide) rfl (fun ls hl => ?_)
      have L62 : ∀ (kq j : Nat) (hv : ar (gf al) 100 0 (rowS (zup (becomeS al 6 i) (10 + 6) 4 1) 6) = j + ar (gf al) kq j (rowS (trvT (zup (becomeS al 6 i) (10 + 6) 4 1) 6 1 (gf al) j) 6)) (H : Heap) (locs : List Loc) (ls : Array Slot), j + kq = 100 → WS D n ad (cC cy ad (trvT (zup (becomeS al 6 i) (10 + 6) 4 1) 6 1 (gf al) j) ex) (Acc n ad s.heap.size) s.heap H locs → lv_has ls 4 [(0, .ref (ad 0)), (1, .int (nI i)), (2, .int (ash1 (zup (becomeS al 6 i) (10 + 6) 4 1))), (3, .int (nI j))] → W p l e { frames := 6, cells := 1, slots := 6, locals := 110 } s m args below meth c H locs 0 0 (vx_MQ below (QXi D n ad s.heap.size (k_arrives al (nI i)) (v_arrives al (nI i)) (cC cy ad (u_arrives al (nI i)) ex)) (XW D n ad s.heap.size (zbad "java/lang/IndexOutOfBoundsException" "java/lang/IllegalArgumentException" (k_arrives al (nI i))) (cC cy ad al ex)) args s 1 6 (Acc n ad s.heap.size)) (F0 m 62 ls []) := by
        intro kq
        induction kq with
        | zero =>
          intro j hv H locs ls hjk hW hl
          have hjN : j = 100 := by omega
          try rw [hjN] at hW
          try rw [hjN] at hl
          have hJ : ar (gf al) 100 0 (rowS (zup (becomeS al 6 i) (10 + 6) 4 1) 6) = 100 := by rw [hv, hjN]; rfl
          refine lv_aload_n hx hb dX3_arrives_62 rfl (lv_at hl 0 rfl) ?_
          refine z_get (C := RX3) (T := TX3) (N := 12) (ci := 3) S hE hW hi3 rfl (Nat.lt_of_lt_of_le (by decide) hn) cC_0 10 (by decide) rfl f39 (v := .ref (ad (10 + 6))) rfl dX3_arrives_63 ?_
          refine z_getN (C := RX2) (T := TX2) (N := 5) (ci := 2) S hE hW hi2 rfl (Nat.lt_of_lt_of_le (kC_s (by decide)) hn) (cC_s (i := 6) (by decide)) 4 (by decide) rfl 10 rfl (v := .int ((trvT (zup (becomeS al 6 i) (10 + 6) 4 1) 6 1 (gf al) 100) (10 + 6) 4)) rfl dX3_arrives_66 ?_
          refine lv_iconst (v := 1) hx hb dX3_arrives_69 (by decide) ?_
          refine lv_icmp_ne (tgt := 106) hx hb dX3_arrives_70 (by decide) (fun c70 => ?_) (fun c70 => ?_)
          · refine lv_aload_n hx hb dX3_arrives_106 rfl (lv_at hl 0 rfl) ?_
            refine z_get (C := RX3) (T := TX3) (N := 12) (ci := 3) S hE hW hi3 rfl (Nat.lt_of_lt_of_le (by decide) hn) cC_0 11 (by decide) rfl f43 (v := .ref (ad (6 + 1))) rfl dX3_arrives_107 ?_
            refine z_cVi (As := []) (rest := []) (k := (6 + 1)) S hE hW (cX1_allSacks_ok l D n ad cy sa H.size hn (trvT (zup (becomeS al 6 i) (10 + 6) 4 1) 6 1 (gf al) 100) ex 1 (by decide)) (cwV 0 hts gX3_arrives_X1_allSacks rfl rfl rfl (by decide +kernel) ⟨Nat.le_of_ble_eq_true rfl, Nat.le_of_ble_eq_true rfl⟩) (Nat.lt_of_lt_of_le (kC_h (by decide)) hn) (cC_h (i := 1) (by decide)) rfl rfl rfl hl.1 rfl (Nat.le_of_ble_eq_true rfl) dX3_arrives_110 ⟨Nat.le_of_ble_eq_true rfl, Nat.le_of_ble_eq_true rfl⟩ (fun r _ H locs hp hW => ?_)
            subst hp
            refine lv_iload_n hx hb dX3_arrives_113 rfl (lv_at hl 2 rfl) ?_
            refine lv_isub hx hb dX3_arrives_114 ?_
            exact zx_i S hW hr hlk () (congrArg (fun z => cC cy ad z ex) (by unfold u_arrives; rw [ix_nI (show i < 2 ^ 31 by omega), if_neg c39, hJ])) ⟨(by unfold k_arrives; rw [if_neg (fun h => h c5)]), (by unfold v_arrives u_arrives; rw [ix_nI (show i < 2 ^ 31 by omega), if_neg c39, if_neg c39, hJ]; rfl)⟩ (Nat.le_of_ble_eq_true rfl) (Nat.le_of_ble_eq_true rfl) dX3_arrives_115
          · refine lv_iload_n hx hb dX3_arrives_73 rfl (lv_at hl 3 rfl) ?_
            refine lv_bipush (v := 100) hx hb dX3_arrives_74 (by decide) ?_
            refine lv_icmp_ge (tgt := 106) hx hb dX3_arrives_76 (by decide) (fun _ => ?_) (fun h => absurd (by decide) h)
            refine lv_aload_n hx hb dX3_arrives_106 rfl (lv_at hl 0 rfl) ?_
            refine z_get (C := RX3) (T := TX3) (N := 12) (ci := 3) S hE hW hi3 rfl (Nat.lt_of_lt_of_le (by decide) hn) cC_0 11 (by decide) rfl f43 (v := .ref (ad (6 + 1))) rfl dX3_arrives_107 ?_
            refine z_cVi (As := []) (rest := []) (k := (6 + 1)) S hE hW (cX1_allSacks_ok l D n ad cy sa H.size hn (trvT (zup (becomeS al 6 i) (10 + 6) 4 1) 6 1 (gf al) 100) ex 1 (by decide)) (cwV 0 hts gX3_arrives_X1_allSacks rfl rfl rfl (by decide +kernel) ⟨Nat.le_of_ble_eq_true rfl, Nat.le_of_ble_eq_true rfl⟩) (Nat.lt_of_lt_of_le (kC_h (by decide)) hn) (cC_h (i := 1) (by decide)) rfl rfl rfl hl.1 rfl (Nat.le_of_ble_eq_true rfl) dX3_arrives_110 ⟨Nat.le_of_ble_eq_true rfl, Nat.le_of_ble_eq_true rfl⟩ (fun r _ H locs hp hW => ?_)
            subst hp
            refine lv_iload_n hx hb dX3_arrives_113 rfl (lv_at hl 2 rfl) ?_
            refine lv_isub hx hb dX3_arrives_114 ?_
            exact zx_i S hW hr hlk () (congrArg (fun z => cC cy ad z ex) (by unfold u_arrives; rw [ix_nI (show i < 2 ^ 31 by omega), if_neg c39, hJ])) ⟨(by unfold k_arrives; rw [if_neg (fun h => h c5)]), (by unfold v_arrives u_arrives; rw [ix_nI (show i < 2 ^ 31 by omega), if_neg c39, if_neg c39, hJ]; rfl)⟩ (Nat.le_of_ble_eq_true rfl) (Nat.le_of_ble_eq_true rfl) dX3_arrives_115
        | succ kq ih =>
          intro j hv H locs ls hjk hW hl
          have hj : j < 100 := by omega
          obtain ⟨a1, haa, ha9⟩ := trvT_ab (al := (zup (becomeS al 6 i) (10 + 6) 4 1)) (sh := 1) (g := gf al) (by decide) ((congrFun zup_k 2).trans ((up_n (by decide)).trans (becomeS_2.trans ha))) ha8 j
          refine lv_aload_n hx hb dX3_arrives_62 rfl (lv_at hl 0 rfl) ?_
          refine z_get (C := RX3) (T := TX3) (N := 12) (ci := 3) S hE hW hi3 rfl (Nat.lt_of_lt_of_le (by decide) hn) cC_0 10 (by decide) rfl f39 (v := .ref (ad (10 + 6))) rfl dX3_arrives_63 ?_
          refine z_getN (C := RX2) (T := TX2) (N := 5) (ci := 2) S hE hW hi2 rfl (Nat.lt_of_lt_of_le (kC_s (by decide)) hn) (cC_s (i := 6) (by decide)) 4 (by decide) rfl 10 rfl (v := .int ((trvT (zup (becomeS al 6 i) (10 + 6) 4 1) 6 1 (gf al) j) (10 + 6) 4)) rfl dX3_arrives_66 ?_
          refine lv_iconst (v := 1) hx hb dX3_arrives_69 (by decide) ?_
          refine lv_icmp_ne (tgt := 106) hx hb dX3_arrives_70 (by decide) (fun c70 => ?_) (fun c70 => ?_)
          · have hJ : ar (gf al) 100 0 (rowS (zup (becomeS al 6 i) (10 + 6) 4 1) 6) = j := by rw [hv, show ar (gf al) (kq + 1) j (rowS (trvT (zup (becomeS al 6 i) (10 + 6) 4 1) 6 1 (gf al) j) 6) = 0 from if_pos c70]; rfl
            refine lv_aload_n hx hb dX3_arrives_106 rfl (lv_at hl 0 rfl) ?_
            refine z_get (C := RX3) (T := TX3) (N := 12) (ci := 3) S hE hW hi3 rfl (Nat.lt_of_lt_of_le (by decide) hn) cC_0 11 (by decide) rfl f43 (v := .ref (ad (6 + 1))) rfl dX3_arrives_107 ?_
            refine z_cVi (As := []) (rest := []) (k := (6 + 1)) S hE hW (cX1_allSacks_ok l D n ad cy sa H.size hn (trvT (zup (becomeS al 6 i) (10 + 6) 4 1) 6 1 (gf al) j) ex 1 (by decide)) (cwV 0 hts gX3_arrives_X1_allSacks rfl rfl rfl (by decide +kernel) ⟨Nat.le_of_ble_eq_true rfl, Nat.le_of_ble_eq_true rfl⟩) (Nat.lt_of_lt_of_le (kC_h (by decide)) hn) (cC_h (i := 1) (by decide)) rfl rfl rfl hl.1 rfl (Nat.le_of_ble_eq_true rfl) dX3_arrives_110 ⟨Nat.le_of_ble_eq_true rfl, Nat.le_of_ble_eq_true rfl⟩ (fun r _ H locs hp hW => ?_)
            subst hp
            refine lv_iload_n hx hb dX3_arrives_113 rfl (lv_at hl 2 rfl) ?_
            refine lv_isub hx hb dX3_arrives_114 ?_
            exact zx_i S hW hr hlk () (congrArg (fun z => cC cy ad z ex) (by unfold u_arrives; rw [ix_nI (show i < 2 ^ 31 by omega), if_neg c39, hJ])) ⟨(by unfold k_arrives; rw [if_neg (fun h => h c5)]), (by unfold v_arrives u_arrives; rw [ix_nI (show i < 2 ^ 31 by omega), if_neg c39, if_neg c39, hJ]; rfl)⟩ (Nat.le_of_ble_eq_true rfl) (Nat.le_of_ble_eq_true rfl) dX3_arrives_115
          · have hv2 : ar (gf al) 100 0 (rowS (zup (becomeS al 6 i) (10 + 6) 4 1) 6) = (j + 1) + ar (gf al) kq (j + 1) (rowS (trvT (zup (becomeS al 6 i) (10 + 6) 4 1) 6 1 (gf al) (j + 1)) 6) := by rw [hv, show ar (gf al) (kq + 1) j (rowS (trvT (zup (becomeS al 6 i) (10 + 6) 4 1) 6 1 (gf al) j) 6) = ar (gf al) kq (j + 1) (trv (rowS (trvT (zup (becomeS al 6 i) (10 + 6) 4 1) 6 1 (gf al) j) 6) (gf al j)) + 1 from if_neg (fun q => q c70), show rowS (trvT (zup (becomeS al 6 i) (10 + 6) 4 1) 6 1 (gf al) (j + 1)) 6 = trv (rowS (trvT (zup (becomeS al 6 i) (10 + 6) 4 1) 6 1 (gf al) j) 6) (gf al j) from rowS_travel (by decide)]; omega
            refine lv_iload_n hx hb dX3_arrives_73 rfl (lv_at hl 3 rfl) ?_
            refine lv_bipush (v := 100) hx hb dX3_arrives_74 (by decide) ?_
            refine lv_icmp_ge (tgt := 106) hx hb dX3_arrives_76 (by decide) (fun h => absurd h (nI_ge (b := 100) hj (by decide))) (fun _ => ?_)
            refine lv_aload_n hx hb dX3_arrives_79 rfl (lv_at hl 0 rfl) ?_
            refine z_get (C := RX3) (T := TX3) (N := 12) (ci := 3) S hE hW hi3 rfl (Nat.lt_of_lt_of_le (by decide) hn) cC_0 10 (by decide) rfl f39 (v := .ref (ad (10 + 6))) rfl dX3_arrives_80 ?_
            refine lv_aload_n hx hb dX3_arrives_83 rfl (lv_at hl 0 rfl) ?_
            refine lv_aload_n hx hb dX3_arrives_84 rfl (lv_at hl 0 rfl) ?_
            refine z_get (C := RX3) (T := TX3) (N := 12) (ci := 3) S hE hW hi3 rfl (Nat.lt_of_lt_of_le (by decide) hn) cC_0 8 (by decide) rfl f193 (v := .int (nI h)) (congrArg (fun z => some (Value.int z)) (((congrFun (trvT_o (by omega) (by omega) (by omega) j) 8).trans (congrFun ((zup_o (by omega)).trans (becomeS_o (by omega) (by omega))) 8)).trans hh)) dX3_arrives_85 ?_
            refine lv_iload_n hx hb dX3_arrives_88 rfl (lv_at hl 3 rfl) ?_
            refine lv_iadd hx hb dX3_arrives_89 ?_
            refine z_top2 (y := nI (h + j)) (nI_add h j) ?_
            refine z_cVi (As := [.int (nI (h + j))]) (rest := [.ref (ad (10 + 6))]) (k := 0) S hE hW (cX3_gustAt_ok l D n ad cy sa H.size hn (trvT (zup (becomeS al 6 i) (10 + 6) 4 1) 6 1 (gf al) j) ex (h + j) (by omega)) (cwV 1 hts gX3_arrives_X3_gustAt rfl rfl rfl (by decide +kernel) ⟨Nat.le_of_ble_eq_true rfl, Nat.le_of_ble_eq_true rfl⟩) (Nat.lt_of_lt_of_le (by decide) hn) cC_0 rfl rfl rfl hl.1 rfl (Nat.le_of_ble_eq_true rfl) dX3_arrives_90 ⟨Nat.le_of_ble_eq_true rfl, Nat.le_of_ble_eq_true rfl⟩ (fun r _ H locs hp hW => ?_)
            subst hp
            refine z_top2 (y := gf al j) ((congrFun ((trvT_o (by omega) (by omega) (by omega) j).trans ((zup_o (by omega)).trans (becomeS_o (by omega) (by omega)))) _).trans (congrFun (gf_eq hh (by omega)) j).symm) ?_
            refine lv_aload_n hx hb dX3_arrives_93 rfl (lv_at hl 0 rfl) ?_
            refine z_get (C := RX3) (T := TX3) (N := 12) (ci := 3) S hE hW hi3 rfl (Nat.lt_of_lt_of_le (by decide) hn) cC_0 11 (by decide) rfl f43 (v := .ref (ad (6 + 1))) rfl dX3_arrives_94 ?_
            refine z_cVv (As := [.int (gf al j), .ref (ad (6 + 1))]) (rest := []) (k := (10 + 6)) S hE hW (cX2_travel_ok l D n ad cy sa H.size hn (trvT (zup (becomeS al 6 i) (10 + 6) 4 1) 6 1 (gf al) j) ex 6 (by decide) 1 (by decide) a1 ha9 (by omega) (gf al j)) (cwV 2 hts gX3_arrives_X2_travel rfl rfl rfl (by decide +kernel) ⟨Nat.le_of_ble_eq_true rfl, Nat.le_of_ble_eq_true rfl⟩) (Nat.lt_of_lt_of_le (kC_s (by decide)) hn) (cC_s (i := 6) (by decide)) rfl rfl rfl hl.1 rfl (Nat.le_of_ble_eq_true rfl) dX3_arrives_97 ⟨Nat.le_of_ble_eq_true rfl, Nat.le_of_ble_eq_true rfl⟩ (fun _ H locs _ hW => ?_)
            refine lv_iinc (v := nI (j + 1)) (lv' := [(3, .int (nI (j + 1))), (0, .ref (ad 0)), (1, .int (nI i)), (2, .int (ash1 (zup (becomeS al 6 i) (10 + 6) 4 1)))]) hx hb dX3_arrives_100 hl (k := 3) rfl (nI_1 _) (by decide) rfl (fun ls hl => ?_)
            refine lv_goto (tgt := 62) hx hb dX3_arrives_103 (by decide) ?_
            exact ih (j + 1) hv2 H locs ls (by omega) hW (lv_sub hl [1, 2, 3, 0] rfl)
      exact L62 (100) 0 (by rw [Nat.zero_add]; rfl) _ _ ls (by omega) hW (lv_sub hl [2, 3, 1, 0] rfl)
    · refine lv_iconst (v := 0) hx hb dX3_arrives_42 (by decide) ?_
      exact zx_i S hW hr hlk () (congrArg (fun z => cC cy ad z ex) (by unfold u_arrives; rw [ix_nI (show i < 2 ^ 31 by omega), if_pos c39])) ⟨(by unfold k_arrives; rw [if_neg (fun h => h c5)]), (by unfold v_arrives; rw [ix_nI (show i < 2 ^ 31 by omega), if_pos c39])⟩ (Nat.le_of_ble_eq_true rfl) (Nat.le_of_ble_eq_true rfl) dX3_arrives_43
  · have c5 := zb_f c5
    exact z_throw (E := "java/lang/IndexOutOfBoundsException") 7 S hnx hE hW hfl (by decide) x51 xi51 (fun _ h => List.mem_cons_of_mem _ (List.mem_append_right _ h)) z_castI z_otI rfl hl.1 dX3_arrives_8 dX3_arrives_11 dX3_arrives_12 dX3_arrives_14 dX3_arrives_17 ⟨Nat.le_of_ble_eq_true rfl, Nat.le_of_ble_eq_true rfl, Nat.le_of_ble_eq_true rfl, Nat.le_of_ble_eq_true rfl⟩ hlk (Nat.le_of_ble_eq_true rfl) (Nat.le_of_ble_eq_true rfl) (Or.inl ⟨rfl, (by unfold k_arrives; rw [if_pos c5])⟩)
set_option maxHeartbeats 4000000 in
set_option maxRecDepth 100000 in
theorem cX3_advise_ok (l : Launch) (D : va_G) (n : Nat) (ad cy sa : Nat → Nat) (sz : Nat) (hn : 28 ≤ n) (al : Nat → Nat → Int32) (ex : Nat → va_E) (x : Int32) (y : Int32) (B : Nat) (hB : al 0 6 = nI B) (hB4 : B ≤ 4) (hfl : l.stackTraces = false) : vx_Met l yX3_advise wsX3_advise ({ frames := 6, cells := 1, slots := 6, locals := 110 }) (PW D n ad cy sa sz (cC cy ad al ex) [.ref (ad 0), .int x, .int y]) (QXi D n ad sz (k_advise al x y) (v_advise al x y) (cC cy ad al ex)) (XW D n ad sz (zbad "java/lang/IndexOutOfBoundsException" "java/lang/IllegalArgumentException" (k_advise al x y)) (cC cy ad al ex)) 1 6 (Acc n ad sz) := by
  refine zs_vx (cc := cX3_advise) (maxL := 7) (ret := (some .int)) (own := RX3) (by decide) rfl rfl (Nat.le_of_ble_eq_true rfl) ?_
  intro p e s m args below meth c ls S hnx hE hW hr hlk hsz hav hl
  subst hsz
  have hx := S.1
  have hb := S.2.1
  have hown := S.2.2.2.1
  have hts := S.2.2.2.2
  have hl : lv_has ls 7 [(0, .ref (ad 0)), (1, .int x), (2, .int y)] := hl
  have f27 := hts (.fieldLink RX3 27 "PumiceSledge" "boats" "[LPumiceSledge$Boat;") (by decide +kernel)
  have hi3 : ∀ w ∈ wsX30, w ∈ wsX3_advise := by decide +kernel
  have hi0 : ∀ w ∈ wsX00, w ∈ wsX3_advise := by decide +kernel
  have x51 := hts (.classLink RX3 51 "java/lang/IndexOutOfBoundsException") (by decide +kernel)
  have xi51 := hts (.initialized "java/lang/IndexOutOfBoundsException") (by decide +kernel)
  refine lv_aload_n hx hb dX3_advise_0 rfl (lv_at hl 0 rfl) ?_
  refine lv_iload_n hx hb dX3_advise_1 rfl (lv_at hl 1 rfl) ?_
  refine z_cVi (As := [.int x]) (rest := []) (k := 0) S hE hW (cX3_isBoat_ok l D n ad cy sa s.heap.size hn al ex x) (cwV 1 hts gX3_advise_X3_isBoat rfl rfl rfl (by decide +kernel) ⟨Nat.le_of_ble_eq_true rfl, Nat.le_of_ble_eq_true rfl⟩) (Nat.lt_of_lt_of_le (by decide) hn) cC_0 rfl rfl rfl hl.1 rfl (Nat.le_of_ble_eq_true rfl) dX3_advise_2 ⟨Nat.le_of_ble_eq_true rfl, Nat.le_of_ble_eq_true rfl⟩ (fun r _ H locs hp hW => ?_)
  subst hp
  refine lv_if_ne (tgt := 18) hx hb dX3_advise_5 (by decide) (fun c5 => ?_) (fun c5 => ?_)
  · have c5 := zb_t c5
    refine lv_iload_n hx hb dX3_advise_18 rfl (lv_at hl 2 rfl) ?_
    refine z_pS (As := [.int y]) (rest := []) S hE hW (cX3_isKind_ok l y) (va_cwS 1 hts gX3_advise_X3_isKind rfl rfl rfl (by decide +kernel) ⟨Nat.le_of_ble_eq_true rfl, Nat.le_of_ble_eq_true rfl⟩) rfl hl.1 rfl (Nat.le_of_ble_eq_true rfl) dX3_advise_19 ⟨Nat.le_of_ble_eq_true rfl, Nat.le_of_ble_eq_true rfl⟩ (fun H locs hW => ?_)
    refine lv_if_ne (tgt := 35) hx hb dX3_advise_22 (by decide) (fun c22 => ?_) (fun c22 => ?_)
    · have c22 := zb_t c22
      obtain ⟨i, hi, rfl⟩ := zS_ex hB (by omega) c5
      obtain ⟨j, hj, rfl⟩ := zIn_ex 2 rfl (by decide) c22
      refine lv_aload_n hx hb dX3_advise_35 rfl (lv_at hl 0 rfl) ?_
      refine z_get (C := RX3) (T := TX3) (N := 12) (ci := 3) S hE hW hi3 rfl (Nat.lt_of_lt_of_le (by decide) hn) cC_0 5 (by decide) rfl f27 (v := .ref (ad 5)) rfl dX3_advise_36 ?_
      refine lv_iload_n hx hb dX3_advise_39 rfl (lv_at hl 1 rfl) ?_
      refine z_aldq (t0 := 2) (C := RX0) S hE hW (Nat.lt_of_lt_of_le (by decide) hn) cC_5 rfl i rfl (by omega) (by decide) (v := .ref (ad (24 + i))) rfl dX3_advise_40 ?_
      refine lv_astore_n (lv' := [(3, .ref (ad (24 + i))), (0, .ref (ad 0)), (1, .int (nI i)), (2, .int (nI j))]) hx hb dX3_advise_41 rfl hl (by decide) rfl (fun ls hl => ?_)
      refine lv_iload_n hx hb dX3_advise_42 rfl (lv_at hl 3 rfl) ?_
      refine z_pS (As := [.int (nI j)]) (rest := []) S hE hW (cX3_stowedWeight_ok l j (by omega)) (va_cwS 1 hts gX3_advise_X3_stowedWeight rfl rfl rfl (by decide +kernel) ⟨Nat.le_of_ble_eq_true rfl, Nat.le_of_ble_eq_true rfl⟩) rfl hl.1 rfl (Nat.le_of_ble_eq_true rfl) dX3_advise_43 ⟨Nat.le_of_ble_eq_true rfl, Nat.le_of_ble_eq_true rfl⟩ (fun H locs hW => ?_)
      refine lv_istore (lv' := [(4, .int (stw (nI j))), (3, .ref (ad (24 + i))), (0, .ref (ad 0)), (1, .int (nI i)), (2, .int (nI j))]) hx hb dX3_advise_46 hl (by decide) rfl (fun ls hl => ?_)
      refine lv_iload hx hb dX3_advise_48 (lv_at hl 0 rfl) ?_
      refine lv_aload_n hx hb dX3_advise_50 rfl (lv_at hl 1 rfl) ?_
      refine z_cVi (As := []) (rest := [.int (stw (nI j))]) (k := (24 + i)) S hE hW (cX0_room_ok l D n ad cy sa H.size hn al ex i (by omega)) (cwV 0 hts gX3_advise_X0_room rfl rfl rfl (by decide +kernel) ⟨Nat.le_of_ble_eq_true rfl, Nat.le_of_ble_eq_true rfl⟩) (Nat.lt_of_lt_of_le (kC_b (by omega)) hn) (cC_b (i := i) (by omega)) rfl rfl rfl hl.1 rfl (Nat.le_of_ble_eq_true rfl) dX3_advise_51 ⟨Nat.le_of_ble_eq_true rfl, Nat.le_of_ble_eq_true rfl⟩ (fun r _ H locs hp hW => ?_)
      subst hp
      refine lv_icmp_le (tgt := 59) hx hb dX3_advise_54 (by decide) (fun c54 => ?_) (fun c54 => ?_)
      · refine lv_aload_n hx hb dX3_advise_59 rfl (lv_at hl 1 rfl) ?_
        refine z_getN (C := RX0) (T := TX0) (N := 3) (ci := 0) S hE hW hi0 rfl (Nat.lt_of_lt_of_le (kC_b (by omega)) hn) (cC_b (i := i) (by omega)) 1 (by decide) rfl 13 rfl (v := .int (al (24 + i) 1)) rfl dX3_advise_60 ?_
        refine lv_iload hx hb dX3_advise_63 (lv_at hl 0 rfl) ?_
        refine lv_iadd hx hb dX3_advise_65 ?_
        refine lv_aload_n hx hb dX3_advise_66 rfl (lv_at hl 1 rfl) ?_
        refine z_getN (C := RX0) (T := TX0) (N := 3) (ci := 0) S hE hW hi0 rfl (Nat.lt_of_lt_of_le (kC_b (by omega)) hn) (cC_b (i := i) (by omega)) 2 (by decide) rfl 14 rfl (v := .int (al (24 + i) 2)) rfl dX3_advise_67 ?_
        refine z_pS (As := [.int (al (24 + i) 1 + stw (nI j)), .int (al (24 + i) 2)]) (rest := []) S hE hW (cX3_depthOf_ok l (al (24 + i) 1 + stw (nI j)) (al (24 + i) 2)) (va_cwS 2 hts gX3_advise_X3_depthOf rfl rfl rfl (by decide +kernel) ⟨Nat.le_of_ble_eq_true rfl, Nat.le_of_ble_eq_true rfl⟩) rfl hl.1 rfl (Nat.le_of_ble_eq_true rfl) dX3_advise_70 ⟨Nat.le_of_ble_eq_true rfl, Nat.le_of_ble_eq_true rfl⟩ (fun H locs hW => ?_)
        refine lv_istore (lv' := [(5, .int (dep (al (24 + i) 1 + stw (nI j)) (al (24 + i) 2))), (4, .int (stw (nI j))), (3, .ref (ad (24 + i))), (0, .ref (ad 0)), (1, .int (nI i)), (2, .int (nI j))]) hx hb dX3_advise_73 hl (by decide) rfl (fun ls hl => ?_)
        refine lv_aload_n hx hb dX3_advise_75 rfl (lv_at hl 2 rfl) ?_
        refine z_getN (C := RX0) (T := TX0) (N := 3) (ci := 0) S hE hW hi0 rfl (Nat.lt_of_lt_of_le (kC_b (by omega)) hn) (cC_b (i := i) (by omega)) 1 (by decide) rfl 13 rfl (v := .int (al (24 + i) 1)) rfl dX3_advise_76 ?_
        refine lv_aload_n hx hb dX3_advise_79 rfl (lv_at hl 2 rfl) ?_
        refine z_getN (C := RX0) (T := TX0) (N := 3) (ci := 0) S hE hW hi0 rfl (Nat.lt_of_lt_of_le (kC_b (by omega)) hn) (cC_b (i := i) (by omega)) 2 (by decide) rfl 14 rfl (v := .int (al (24 + i) 2)) rfl dX3_advise_80 ?_
        refine lv_iload hx hb dX3_advise_83 (lv_at hl 1 rfl) ?_
        refine lv_iadd hx hb dX3_advise_85 ?_
        refine z_pS (As := [.int (al (24 + i) 1), .int (al (24 + i) 2 + stw (nI j))]) (rest := []) S hE hW (cX3_depthOf_ok l (al (24 + i) 1) (al (24 + i) 2 + stw (nI j))) (va_cwS 2 hts gX3_advise_X3_depthOf rfl rfl rfl (by decide +kernel) ⟨Nat.le_of_ble_eq_true rfl, Nat.le_of_ble_eq_true rfl⟩) rfl hl.1 rfl (Nat.le_of_ble_eq_true rfl) dX3_advise_86 ⟨Nat.le_of_ble_eq_true rfl, Nat.le_of_ble_eq_true rfl⟩ (fun H locs hW => ?_)
        refine lv_istore (lv' := [(6, .int (dep (al (24 + i) 1) (al (24 + i) 2 + stw (nI j)))), (5, .int (dep (al (24 + i) 1 + stw (nI j)) (al (24 + i) 2))), (4, .int (stw (nI j))), (3, .ref (ad (24 + i))), (0, .ref (ad 0)), (1, .int (nI i)), (2, .int (nI j))]) hx hb dX3_advise_89 hl (by decide) rfl (fun ls hl => ?_)
        refine lv_iload hx hb dX3_advise_91 (lv_at hl 1 rfl) ?_
        refine lv_iload hx hb dX3_advise_93 (lv_at hl 0 rfl) ?_
        refine lv_icmp_gt (tgt := 102) hx hb dX3_advise_95 (by decide) (fun c95 => ?_) (fun c95 => ?_)
        · refine lv_iconst (v := 2) hx hb dX3_advise_102 (by decide) ?_
          exact zx_i S hW hr hlk () rfl ⟨(by unfold k_advise; rw [if_neg (fun h => h c5), if_neg (fun h => h c22)]), (by unfold v_advise; rw [ix_nI (show i < 2 ^ 31 by omega), if_pos c54, if_pos c95])⟩ (Nat.le_of_ble_eq_true rfl) (Nat.le_of_ble_eq_true rfl) dX3_advise_103
        · refine lv_iconst (v := 1) hx hb dX3_advise_98 (by decide) ?_
          refine lv_goto (tgt := 103) hx hb dX3_advise_99 (by decide) ?_
          exact zx_i S hW hr hlk () rfl ⟨(by unfold k_advise; rw [if_neg (fun h => h c5), if_neg (fun h => h c22)]), (by unfold v_advise; rw [ix_nI (show i < 2 ^ 31 by omega), if_pos c54, if_neg c95])⟩ (Nat.le_of_ble_eq_true rfl) (Nat.le_of_ble_eq_true rfl) dX3_advise_103
      · refine lv_iconst (v := 0) hx hb dX3_advise_57 (by decide) ?_
        exact zx_i S hW hr hlk () rfl ⟨(by unfold k_advise; rw [if_neg (fun h => h c5), if_neg (fun h => h c22)]), (by unfold v_advise; rw [ix_nI (show i < 2 ^ 31 by omega), if_neg c54])⟩ (Nat.le_of_ble_eq_true rfl) (Nat.le_of_ble_eq_true rfl) dX3_advise_58
    · have c22 := zb_f c22
      exact z_throw (E := "java/lang/IndexOutOfBoundsException") 14 S hnx hE hW hfl (by decide) x51 xi51 (fun _ h => List.mem_cons_of_mem _ (List.mem_append_right _ h)) z_castI z_otI rfl hl.1 dX3_advise_25 dX3_advise_28 dX3_advise_29 dX3_advise_31 dX3_advise_34 ⟨Nat.le_of_ble_eq_true rfl, Nat.le_of_ble_eq_true rfl, Nat.le_of_ble_eq_true rfl, Nat.le_of_ble_eq_true rfl⟩ hlk (Nat.le_of_ble_eq_true rfl) (Nat.le_of_ble_eq_true rfl) (Or.inl ⟨rfl, (by unfold k_advise; rw [if_neg (fun h => h c5), if_pos c22])⟩)
  · have c5 := zb_f c5
    exact z_throw (E := "java/lang/IndexOutOfBoundsException") 13 S hnx hE hW hfl (by decide) x51 xi51 (fun _ h => List.mem_cons_of_mem _ (List.mem_append_right _ h)) z_castI z_otI rfl hl.1 dX3_advise_8 dX3_advise_11 dX3_advise_12 dX3_advise_14 dX3_advise_17 ⟨Nat.le_of_ble_eq_true rfl, Nat.le_of_ble_eq_true rfl, Nat.le_of_ble_eq_true rfl, Nat.le_of_ble_eq_true rfl⟩ hlk (Nat.le_of_ble_eq_true rfl) (Nat.le_of_ble_eq_true rfl) (Or.inl ⟨rfl, (by unfold k_advise; rw [if_pos c5])⟩)
set_option maxHeartbeats 4000000 in
set_option maxRecDepth 100000 in
theorem cX3_foresee_ok (l : Launch) (D : va_G) (n : Nat) (ad cy sa : Nat → Nat) (sz : Nat) (hn : 28 ≤ n) (al : Nat → Nat → Int32) (ex : Nat → va_E) (x : Int32) (y : Int32) (N : Nat) (hN : al 0 4 = nI N) (hN6 : N ≤ 6) (h : Nat) (hh : al 0 8 = nI h) (hh3 : h < 2 ^ 29) (hab : abOK al) (hfl : l.stackTraces = false) : vx_Met l yX3_foresee wsX3_foresee ({ frames := 6, cells := 1, slots := 6, locals := 127 }) (PW D n ad cy sa sz (cC cy ad al ex) [.ref (ad 0), .int x, .int y]) (QXi D n ad sz (k_foresee al x y) (v_foresee al x y) (cC cy ad (u_foresee al x y) ex)) (XW D n ad sz (zbad "java/lang/IllegalArgumentException" "java/lang/IndexOutOfBoundsException" (k_foresee al x y)) (cC cy ad al ex)) 1 6 (Acc n ad sz) := by
  refine zs_vx (cc := cX3_foresee) (maxL := 5) (ret := (some .int)) (own := RX3) (by decide) rfl rfl (Nat.le_of_ble_eq_true rfl) ?_
  intro p e s m args below meth c ls S hnx hE hW hr hlk hsz hav hl
  subst hsz
  have hx := S.1
  have hb := S.2.1
  have hown := S.2.2.2.1
  have hts := S.2.2.2.2
  have hl : lv_has ls 5 [(0, .ref (ad 0)), (1, .int x), (2, .int y)] := hl
  have f43 := hts (.fieldLink RX3 43 "PumiceSledge" "trialShore" "LPumiceSledge$Shore;") (by decide +kernel)
  have hi3 : ∀ w ∈ wsX30, w ∈ wsX3_foresee := by decide +kernel
  have f34 := hts (.fieldLink RX3 34 "PumiceSledge" "shore" "LPumiceSledge$Shore;") (by decide +kernel)
  have f75 := hts (.fieldLink RX3 75 "PumiceSledge" "sledgeCount" "I") (by decide +kernel)
  have hi1 : ∀ w ∈ wsX10, w ∈ wsX3_foresee := by decide +kernel
  have f21 := hts (.fieldLink RX3 21 "PumiceSledge" "sledges" "[LPumiceSledge$Sledge;") (by decide +kernel)
  have x51 := hts (.classLink RX3 51 "java/lang/IndexOutOfBoundsException") (by decide +kernel)
  have xi51 := hts (.initialized "java/lang/IndexOutOfBoundsException") (by decide +kernel)
  have x62 := hts (.classLink RX3 62 "java/lang/IllegalArgumentException") (by decide +kernel)
  have xi62 := hts (.initialized "java/lang/IllegalArgumentException") (by decide +kernel)
  refine lv_iload_n hx hb dX3_foresee_0 rfl (lv_at hl 1 rfl) ?_
  refine lv_iconst (v := 1) hx hb dX3_foresee_1 (by decide) ?_
  refine lv_bipush (v := 60) hx hb dX3_foresee_2 (by decide) ?_
  refine z_pS (As := [.int x, .int 1, .int 60]) (rest := []) S hE hW (cX3_isWithin_ok l x 1 60) (va_cwS 3 hts gX3_foresee_X3_isWithin rfl rfl rfl (by decide +kernel) ⟨Nat.le_of_ble_eq_true rfl, Nat.le_of_ble_eq_true rfl⟩) rfl hl.1 rfl (Nat.le_of_ble_eq_true rfl) dX3_foresee_4 ⟨Nat.le_of_ble_eq_true rfl, Nat.le_of_ble_eq_true rfl⟩ (fun H locs hW => ?_)
  refine lv_if_ne (tgt := 20) hx hb dX3_foresee_7 (by decide) (fun c7 => ?_) (fun c7 => ?_)
  · have c7 := zb_t c7
    refine lv_iload_n hx hb dX3_foresee_20 rfl (lv_at hl 2 rfl) ?_
    refine lv_iconst (v := 5) hx hb dX3_foresee_21 (by decide) ?_
    refine lv_bipush (v := 7) hx hb dX3_foresee_22 (by decide) ?_
    refine z_pS (As := [.int y, .int 5, .int 7]) (rest := []) S hE hW (cX3_isWithin_ok l y 5 7) (va_cwS 3 hts gX3_foresee_X3_isWithin rfl rfl rfl (by decide +kernel) ⟨Nat.le_of_ble_eq_true rfl, Nat.le_of_ble_eq_true rfl⟩) rfl hl.1 rfl (Nat.le_of_ble_eq_true rfl) dX3_foresee_24 ⟨Nat.le_of_ble_eq_true rfl, Nat.le_of_ble_eq_true rfl⟩ (fun H locs hW => ?_)
    refine lv_if_ne (tgt := 40) hx hb dX3_foresee_27 (by decide) (fun c27 => ?_) (fun c27 => ?_)
    · have c27 := zb_t c27
      obtain ⟨T, hT1, hT60, rfl⟩ := zIn_ex1 1 60 rfl rfl (by decide) (by decide) c7
      obtain ⟨q, hq5, hq8, rfl⟩ := zIn_ex1 5 7 rfl rfl (by decide) (by decide) c27
      refine lv_aload_n hx hb dX3_foresee_40 rfl (lv_at hl 0 rfl) ?_
      refine z_get (C := RX3) (T := TX3) (N := 12) (ci := 3) S hE hW hi3 rfl (Nat.lt_of_lt_of_le (by decide) hn) cC_0 11 (by decide) rfl f43 (v := .ref (ad (6 + 1))) rfl dX3_foresee_41 ?_
      refine lv_aload_n hx hb dX3_foresee_44 rfl (lv_at hl 0 rfl) ?_
      refine z_get (C := RX3) (T := TX3) (N := 12) (ci := 3) S hE hW hi3 rfl (Nat.lt_of_lt_of_le (by decide) hn) cC_0 7 (by decide) rfl f34 (v := .ref (ad (6 + 0))) rfl dX3_foresee_45 ?_
      refine z_cVv (As := [.ref (ad (6 + 0))]) (rest := []) (k := (6 + 1)) S hE hW (cX1_become_ok l D n ad cy sa H.size hn al ex 1 (by decide) 0 (by decide) (by decide)) (cwV 1 hts gX3_foresee_X1_become rfl rfl rfl (by decide +kernel) ⟨Nat.le_of_ble_eq_true rfl, Nat.le_of_ble_eq_true rfl⟩) (Nat.lt_of_lt_of_le (kC_h (by decide)) hn) (cC_h (i := 1) (by decide)) rfl rfl rfl hl.1 rfl (Nat.le_of_ble_eq_true rfl) dX3_foresee_48 ⟨Nat.le_of_ble_eq_true rfl, Nat.le_of_ble_eq_true rfl⟩ (fun _ H locs _ hW => ?_)
      refine lv_iconst (v := 0) hx hb dX3_foresee_51 (by decide) ?_
      refine lv_istore_n (lv' := [(3, .int 0), (0, .ref (ad 0)), (1, .int (nI T)), (2, .int (nI q))]) hx hb dX3_foresee_52 rfl hl (by decide) rfl (fun ls hl => ?_)
      refine lv_iconst (v := 0) hx hb dX3_foresee_53 (by decide) ?_
      refine lv_istore (lv' := [(4, .int 0), (3, .int 0), (0, .ref (ad 0)), (1, .int (nI T)), (2, .int (nI q))]) hx hb dX3_foresee_54 hl (by decide) rfl (fun ls hl => ?_)
      have L56 : ∀ (kq j : Nat) (H : Heap) (locs : List Loc) (ls : Array Slot), j + kq = N → WS D n ad (cC cy ad (forN al T j) ex) (Acc n ad s.heap.size) s.heap H locs → lv_has ls 5 [(0, .ref (ad 0)), (1, .int (nI T)), (2, .int (nI q)), (3, .int (sumI (fun i => forN al T (i + 1) (10 + 6) 2) j)), (4, .int (nI j))] → W p l e { frames := 6, cells := 1, slots := 6, locals := 127 } s m args below meth c H locs 0 0 (vx_MQ below (QXi D n ad s.heap.size (k_foresee al (nI T) (nI q)) (v_foresee al (nI T) (nI q)) (cC cy ad (u_foresee al (nI T) (nI q)) ex)) (XW D n ad s.heap.size (zbad "java/lang/IllegalArgumentException" "java/lang/IndexOutOfBoundsException" (k_foresee al (nI T) (nI q))) (cC cy ad al ex)) args s 1 6 (Acc n ad s.heap.size)) (F0 m 56 ls []) := by
        intro kq
        induction kq with
        | zero =>
          intro j H locs ls hjk hW hl
          have hjN : j = N := by omega
          try rw [hjN] at hW
          try rw [hjN] at hl
          refine lv_iload hx hb dX3_foresee_56 (lv_at hl 4 rfl) ?_
          refine lv_aload_n hx hb dX3_foresee_58 rfl (lv_at hl 0 rfl) ?_
          refine z_get (C := RX3) (T := TX3) (N := 12) (ci := 3) S hE hW hi3 rfl (Nat.lt_of_lt_of_le (by decide) hn) cC_0 4 (by decide) rfl f75 (v := .int (nI N)) (congrArg (fun z => some (Value.int z)) ((congrFun (forN_o (by omega) (by omega) (by omega) (by omega) N) 4).trans hN)) dX3_foresee_59 ?_
          refine lv_icmp_ge (tgt := 86) hx hb dX3_foresee_62 (by decide) (fun _ => ?_) (fun h => absurd (nI_le (Nat.le_refl N) (by omega)) h)
          refine lv_iload_n hx hb dX3_foresee_86 rfl (lv_at hl 2 rfl) ?_
          rcases (show q = 5 ∨ q = 6 ∨ q = 7 by omega) with rfl | rfl | rfl
          · refine lv_lookup (off := 25) (tgt := 112) hx hb dX3_foresee_87 (by decide) (by decide) (by decide) ?_
            refine lv_iload_n hx hb dX3_foresee_112 rfl (lv_at hl 3 rfl) ?_
            exact zx_i S hW hr hlk () (congrArg (fun z => cC cy ad z ex) (by unfold u_foresee; rw [hN, ix_nI (show T < 2 ^ 31 by omega), ix_nI (show N < 2 ^ 31 by omega)])) ⟨(by unfold k_foresee; rw [if_neg (fun h => h c7), if_neg (fun h => h c27)]), (by unfold v_foresee; rw [hN, ix_nI (show T < 2 ^ 31 by omega), ix_nI (show N < 2 ^ 31 by omega), if_pos (by decide)])⟩ (Nat.le_of_ble_eq_true rfl) (Nat.le_of_ble_eq_true rfl) dX3_foresee_113
          · refine lv_lookup (off := 27) (tgt := 114) hx hb dX3_foresee_87 (by decide) (by decide) (by decide) ?_
            refine lv_aload_n hx hb dX3_foresee_114 rfl (lv_at hl 0 rfl) ?_
            refine z_get (C := RX3) (T := TX3) (N := 12) (ci := 3) S hE hW hi3 rfl (Nat.lt_of_lt_of_le (by decide) hn) cC_0 11 (by decide) rfl f43 (v := .ref (ad (6 + 1))) rfl dX3_foresee_115 ?_
            refine z_cVi (As := []) (rest := []) (k := (6 + 1)) S hE hW (cX1_allSacks_ok l D n ad cy sa H.size hn (forN al T N) ex 1 (by decide)) (cwV 0 hts gX3_foresee_X1_allSacks rfl rfl rfl (by decide +kernel) ⟨Nat.le_of_ble_eq_true rfl, Nat.le_of_ble_eq_true rfl⟩) (Nat.lt_of_lt_of_le (kC_h (by decide)) hn) (cC_h (i := 1) (by decide)) rfl rfl rfl hl.1 rfl (Nat.le_of_ble_eq_true rfl) dX3_foresee_118 ⟨Nat.le_of_ble_eq_true rfl, Nat.le_of_ble_eq_true rfl⟩ (fun r _ H locs hp hW => ?_)
            subst hp
            exact zx_i S hW hr hlk () (congrArg (fun z => cC cy ad z ex) (by unfold u_foresee; rw [hN, ix_nI (show T < 2 ^ 31 by omega), ix_nI (show N < 2 ^ 31 by omega)])) ⟨(by unfold k_foresee; rw [if_neg (fun h => h c7), if_neg (fun h => h c27)]), (by unfold v_foresee; rw [hN, ix_nI (show T < 2 ^ 31 by omega), ix_nI (show N < 2 ^ 31 by omega), if_neg (by decide), if_pos (by decide)]; rfl)⟩ (Nat.le_of_ble_eq_true rfl) (Nat.le_of_ble_eq_true rfl) dX3_foresee_121
          · refine lv_lookup (off := 35) (tgt := 122) hx hb dX3_foresee_87 (by decide) (by decide) (by decide) ?_
            refine lv_aload_n hx hb dX3_foresee_122 rfl (lv_at hl 0 rfl) ?_
            refine z_get (C := RX3) (T := TX3) (N := 12) (ci := 3) S hE hW hi3 rfl (Nat.lt_of_lt_of_le (by decide) hn) cC_0 11 (by decide) rfl f43 (v := .ref (ad (6 + 1))) rfl dX3_foresee_123 ?_
            refine z_getN (C := RX1) (T := TX1) (N := 2) (ci := 1) S hE hW hi1 rfl (Nat.lt_of_lt_of_le (kC_h (by decide)) hn) (cC_h (i := 1) (by decide)) 1 (by decide) rfl 4 rfl (v := .int ((forN al T N) (6 + 1) 1)) rfl dX3_foresee_126 ?_
            exact zx_i S hW hr hlk () (congrArg (fun z => cC cy ad z ex) (by unfold u_foresee; rw [hN, ix_nI (show T < 2 ^ 31 by omega), ix_nI (show N < 2 ^ 31 by omega)])) ⟨(by unfold k_foresee; rw [if_neg (fun h => h c7), if_neg (fun h => h c27)]), (by unfold v_foresee; rw [hN, ix_nI (show T < 2 ^ 31 by omega), ix_nI (show N < 2 ^ 31 by omega), if_neg (by decide), if_neg (by decide)])⟩ (Nat.le_of_ble_eq_true rfl) (Nat.le_of_ble_eq_true rfl) dX3_foresee_129
        | succ kq ih =>
          intro j H locs ls hjk hW hl
          have hj : j < N := by omega
          obtain ⟨a, ha, ha8⟩ := hab j (by omega)
          have hg : (fun t => forN al T j 3 ((h + t) % 8)) = gf al := by rw [show forN al T j 3 = al 3 from (forN_o (by omega) (by omega) (by omega) (by omega) j)]; exact (gf_eq hh (by omega)).symm
          refine lv_iload hx hb dX3_foresee_56 (lv_at hl 4 rfl) ?_
          refine lv_aload_n hx hb dX3_foresee_58 rfl (lv_at hl 0 rfl) ?_
          refine z_get (C := RX3) (T := TX3) (N := 12) (ci := 3) S hE hW hi3 rfl (Nat.lt_of_lt_of_le (by decide) hn) cC_0 4 (by decide) rfl f75 (v := .int (nI N)) (congrArg (fun z => some (Value.int z)) ((congrFun (forN_o (by omega) (by omega) (by omega) (by omega) j) 4).trans hN)) dX3_foresee_59 ?_
          refine lv_icmp_ge (tgt := 86) hx hb dX3_foresee_62 (by decide) (fun h => absurd h (nI_ge hj (by omega))) (fun _ => ?_)
          refine lv_iload_n hx hb dX3_foresee_65 rfl (lv_at hl 3 rfl) ?_
          refine lv_aload_n hx hb dX3_foresee_66 rfl (lv_at hl 0 rfl) ?_
          refine lv_iload_n hx hb dX3_foresee_67 rfl (lv_at hl 1 rfl) ?_
          refine lv_aload_n hx hb dX3_foresee_68 rfl (lv_at hl 0 rfl) ?_
          refine z_get (C := RX3) (T := TX3) (N := 12) (ci := 3) S hE hW hi3 rfl (Nat.lt_of_lt_of_le (by decide) hn) cC_0 3 (by decide) rfl f21 (v := .ref (ad 4)) rfl dX3_foresee_69 ?_
          refine lv_iload hx hb dX3_foresee_72 (lv_at hl 4 rfl) ?_
          refine z_aldq (t0 := 1) (C := RX2) S hE hW (Nat.lt_of_lt_of_le (by decide) hn) cC_4 rfl j rfl (by omega) (by decide) (v := .ref (ad (10 + j))) rfl dX3_foresee_74 ?_
          refine z_cVi (As := [.int (nI T), .ref (ad (10 + j))]) (rest := [.int (sumI (fun i => forN al T (i + 1) (10 + 6) 2) j)]) (k := 0) S hE hW (cX3_aboardBehind_ok l D n ad cy sa H.size hn (forN al T j) ex j (by omega) T (by omega) h ((congrFun (forN_o (by omega) (by omega) (by omega) (by omega) j) 8).trans hh) (by omega) a ((congrFun (forN_o (by omega) (by omega) (by omega) (by omega) j) 2).trans ha) ha8) (cwV 2 hts gX3_foresee_X3_aboardBehind rfl rfl rfl (by decide +kernel) ⟨Nat.le_of_ble_eq_true rfl, Nat.le_of_ble_eq_true rfl⟩) (Nat.lt_of_lt_of_le (by decide) hn) cC_0 rfl rfl rfl hl.1 rfl (Nat.le_of_ble_eq_true rfl) dX3_foresee_75 ⟨Nat.le_of_ble_eq_true rfl, Nat.le_of_ble_eq_true rfl⟩ (fun r _ H locs hp hW => ?_)
          subst hp
          rw [hg] at hW ⊢
          refine lv_iadd hx hb dX3_foresee_78 ?_
          refine lv_istore_n (lv' := [(3, .int (sumI (fun i => forN al T (i + 1) (10 + 6) 2) j + ((trvT (becomeS (forN al T j) 6 j) 6 1 (gf al) T) (10 + 6) 2))), (0, .ref (ad 0)), (1, .int (nI T)), (2, .int (nI q)), (4, .int (nI j))]) hx hb dX3_foresee_79 rfl hl (by decide) rfl (fun ls hl => ?_)
          refine lv_iinc (v := nI (j + 1)) (lv' := [(4, .int (nI (j + 1))), (3, .int (sumI (fun i => forN al T (i + 1) (10 + 6) 2) j + ((trvT (becomeS (forN al T j) 6 j) 6 1 (gf al) T) (10 + 6) 2))), (0, .ref (ad 0)), (1, .int (nI T)), (2, .int (nI q))]) hx hb dX3_foresee_80 hl (k := 4) rfl (nI_1 _) (by decide) rfl (fun ls hl => ?_)
          refine lv_goto (tgt := 56) hx hb dX3_foresee_83 (by decide) ?_
          exact ih (j + 1) H locs ls (by omega) hW (lv_sub hl [2, 3, 4, 1, 0] rfl)
      exact L56 (N) 0 _ _ ls (by omega) hW (lv_sub hl [2, 3, 4, 1, 0] rfl)
    · have c27 := zb_f c27
      exact z_throw (E := "java/lang/IndexOutOfBoundsException") 23 S hnx hE hW hfl (by decide) x51 xi51 (fun _ h => List.mem_cons_of_mem _ (List.mem_append_right _ h)) z_castI z_otI rfl hl.1 dX3_foresee_30 dX3_foresee_33 dX3_foresee_34 dX3_foresee_36 dX3_foresee_39 ⟨Nat.le_of_ble_eq_true rfl, Nat.le_of_ble_eq_true rfl, Nat.le_of_ble_eq_true rfl, Nat.le_of_ble_eq_true rfl⟩ hlk (Nat.le_of_ble_eq_true rfl) (Nat.le_of_ble_eq_true rfl) (Or.inr ⟨rfl, (by unfold k_foresee; rw [if_neg (fun h => h c7), if_pos c27])⟩)
  · have c7 := zb_f c7
    exact z_throw (E := "java/lang/IllegalArgumentException") 22 S hnx hE hW hfl (by decide) x62 xi62 (fun _ h => List.mem_cons_of_mem _ (List.mem_append_left _ (List.mem_append_right _ h))) z_castA z_otA rfl hl.1 dX3_foresee_10 dX3_foresee_13 dX3_foresee_14 dX3_foresee_16 dX3_foresee_19 ⟨Nat.le_of_ble_eq_true rfl, Nat.le_of_ble_eq_true rfl, Nat.le_of_ble_eq_true rfl, Nat.le_of_ble_eq_true rfl⟩ hlk (Nat.le_of_ble_eq_true rfl) (Nat.le_of_ble_eq_true rfl) (Or.inl ⟨rfl, (by unfold k_foresee; rw [if_pos c7])⟩)
