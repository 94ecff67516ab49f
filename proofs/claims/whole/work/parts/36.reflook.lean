/-! the reference looks ahead -/
theorem hourN_o {al : Nat → Nat → Int32} {N h k : Nat} (hN : al 0 4 = nI N) (hN6 : N ≤ 6) (hh : al 0 8 = nI h) (hab : abOK al) (h0 : k ≠ 0) (h6 : k ≠ 6) (h8 : k ≠ 8) (hs : k < 10 ∨ 16 ≤ k) : ∀ t, hourN al t k = al k
  | 0 => rfl
  | t + 1 => by
    show hourS (hourN al t) k = al k
    rw [hourS_o (hourN_inv hN hN6 hh hab t).1 hN6 h0 h6 h8 hs, hourN_o hN hN6 hh hab h0 h6 h8 hs t]
theorem hourN_06 {al : Nat → Nat → Int32} : ∀ t, hourN al t 0 6 = al 0 6
  | 0 => rfl
  | t + 1 => by
    show hourS (hourN al t) 0 6 = al 0 6
    rw [hourS_0, up_n (by decide), hourN_06 t]
theorem hourN_row {al : Nat → Nat → Int32} {N h i : Nat} (hN : al 0 4 = nI N) (hN6 : N ≤ 6) (hh : al 0 8 = nI h) (hh3 : h < 2 ^ 29) (hab : abOK al) (hi : i < N) (t : Nat) (ht : t < 2 ^ 29) : rowS (hourN al (t + 1)) i = trv (rowS (hourN al t) i) (gf al t) := by
  obtain ⟨h1, h2, h3⟩ := hourN_inv hN hN6 hh hab t
  show rowS (hourS (hourN al t)) i = _
  rw [hourS_row h1 hN6 (by omega), if_pos hi, h2, ix_nI (show h + t < 2 ^ 31 by omega), hourN_o hN hN6 hh hab (by decide) (by decide) (by decide) (by omega) t, gf_eq hh (by omega)]
theorem e_backH {al : Nat → Nat → Int32} {th : Int32} {N h : Nat} (hN : al 0 4 = nI N) (hN6 : N ≤ 6) (hh : al 0 8 = nI h) (hab : abOK al) (t : Nat) : zset (zset (enc (hourN al t) th) 4 (va_cpy (enc al th 4) (enc (hourN al t) th 4) 0 0 72)) 6 (va_cpy (enc al th 6) (enc (hourN al t) th 6) 0 0 6) = enc al th :=
  e_back ((hourN_inv hN hN6 hh hab t).1.trans hN.symm) (hourN_06 t) (hourN_o hN hN6 hh hab (by decide) (by decide) (by decide) (by omega) t) (hourN_o hN hN6 hh hab (by decide) (by decide) (by decide) (by omega) t) (hourN_o hN hN6 hh hab (by decide) (by decide) (by decide) (by omega) t) (fun i hi => hourN_o hN hN6 hh hab (by omega) (by omega) (by omega) (by omega) t)
/-- a sledge goes down alone -/
def arE (st : Nat → Nat → Int32) (i : Nat) : Nat → Nat → Int32 := zup (if st (10 + i) 3 = 0 then zup st (10 + i) 4 2 else st) 0 8 (st 0 8 + 1)
def arS (al : Nat → Nat → Int32) (i : Nat) (g : Nat → Int32) : Nat → Nat → Nat → Int32
  | 0 => zup al (10 + i) 4 1
  | j + 1 => arE (slideS (arS al i g j) i 0 (g j)) i
theorem arE_o {st : Nat → Nat → Int32} {i k : Nat} (h0 : k ≠ 0) (h1 : k ≠ 10 + i) : arE st i k = st k := by
  unfold arE
  rw [zup_o h0]
  split
  · rw [zup_o h1]
  · rfl
theorem arE_0 {st : Nat → Nat → Int32} {i : Nat} : arE st i 0 = upd (st 0) 8 (st 0 8 + 1) := by
  unfold arE
  rw [zup_k]
  split
  · rw [zup_o (by omega)]
  · rfl
theorem arS_o {al : Nat → Nat → Int32} {i k : Nat} {g : Nat → Int32} (h0 : k ≠ 0) (h1 : k ≠ 10 + i) (h6 : k ≠ 6) : ∀ j, arS al i g j k = al k
  | 0 => zup_o h1
  | j + 1 => by
    show arE (slideS (arS al i g j) i 0 (g j)) i k = al k
    rw [arE_o h0 h1, slideS_o h1 h6, arS_o h0 h1 h6 j]
theorem arS_0 {al : Nat → Nat → Int32} {i f : Nat} {g : Nat → Int32} (hf : f ≠ 8) : ∀ j, arS al i g j 0 f = al 0 f
  | 0 => congrFun (zup_o (by omega)) f
  | j + 1 => by
    show arE (slideS (arS al i g j) i 0 (g j)) i 0 f = al 0 f
    rw [arE_0, up_n hf, slideS_o (by omega) (by decide), arS_0 hf j]
theorem arS_h {al : Nat → Nat → Int32} {i h : Nat} {g : Nat → Int32} (hh : al 0 8 = nI h) : ∀ j, arS al i g j 0 8 = nI (h + j)
  | 0 => (congrFun (zup_o (by omega)) 8).trans hh
  | j + 1 => by
    show arE (slideS (arS al i g j) i 0 (g j)) i 0 8 = nI (h + (j + 1))
    rw [arE_0, up_s, slideS_o (by omega) (by decide), arS_h hh j, nI_1, Nat.add_assoc]
theorem ar_2 {g : Nat → Int32} {x : Int32 × Int32 × Int32} (h : ¬ x.2.2 = 1) : ∀ f t, ar g f t x = 0
  | 0, _ => rfl
  | f + 1, t => if_pos h
theorem arE_row {st : Nat → Nat → Int32} {i : Nat} : rowS (arE st i) i = (st (10 + i) 2, st (10 + i) 3, if st (10 + i) 3 = 0 then 2 else st (10 + i) 4) := by
  unfold rowS arE
  rw [zup_o (show 10 + i ≠ 0 by omega)]
  split
  · rw [zup_k, up_n (by decide), up_n (by decide), up_s]
  · rfl
theorem arS_row {al : Nat → Nat → Int32} {i : Nat} {g : Nat → Int32} (f j : Nat) (h1 : arS al i g j (10 + i) 4 = 1) : ar g f (j + 1) (trv (rowS (arS al i g j) i) (g j)) = ar g f (j + 1) (rowS (arS al i g (j + 1)) i) := by
  show _ = ar g f (j + 1) (rowS (arE (slideS (arS al i g j) i 0 (g j)) i) i)
  rw [arE_row, slideS_2 (by decide), slideS_3, slideS_4 (by decide)]
  unfold trv
  rw [show (rowS (arS al i g j) i).2.2 = 1 from h1, if_pos rfl]
  show ar g f (j + 1) (if dropH (arS al i g j (10 + i) 2) (arS al i g j (10 + i) 3) (g j) = 0 then (0, dropH (arS al i g j (10 + i) 2) (arS al i g j (10 + i) 3) (g j), 2) else (fallA (arS al i g j (10 + i) 2) (g j), dropH (arS al i g j (10 + i) 2) (arS al i g j (10 + i) 3) (g j), 1)) = _
  by_cases h0 : dropH (arS al i g j (10 + i) 2) (arS al i g j (10 + i) 3) (g j) = 0
  · rw [if_pos h0, if_pos h0]
    refine (ar_2 ?_ _ _).trans (ar_2 ?_ _ _).symm
    · show ¬ (2 : Int32) = 1
      decide
    · show ¬ (2 : Int32) = 1
      decide
  · rw [if_neg h0, if_neg h0, h1]
theorem e_backA {al : Nat → Nat → Int32} {th : Int32} {i : Nat} {g : Nat → Int32} (hi : i < 6) (t : Nat) : zset (zset (enc (arS al i g t) th) 4 (va_cpy (enc al th 4) (enc (arS al i g t) th 4) 0 0 72)) 6 (va_cpy (enc al th 6) (enc (arS al i g t) th 6) 0 0 6) = enc al th :=
  e_back (arS_0 (by decide) t) (arS_0 (by decide) t) (arS_o (by decide) (by omega) (by decide) t) (arS_o (by decide) (by omega) (by decide) t) (arS_o (by decide) (by omega) (by decide) t) (fun b hb => arS_o (by omega) (by omega) (by omega) t)
set_option maxHeartbeats 4000000 in
set_option maxRecDepth 100000 in
theorem cX4_back_ok (l : Launch) (D : va_G) (n : Nat) (ad cy sa : Nat → Nat) (sz : Nat) (hn : 35 ≤ n) (al : Nat → Nat → Int32) (th : Int32) (ex : Nat → va_E) (x : Int32) (N : Nat) (hN : al 0 4 = nI N) (hN6 : N ≤ 6) (h : Nat) (hh : al 0 8 = nI h) (hh3 : h < 2 ^ 29) (hab : abOK al) (hbk : ∀ i, i < N → bk (gf al) 100 0 (rowS al i) < 100) : Met l yX4_back wsX4_back ({ frames := 3, cells := 3, slots := 80, locals := 102 }) (PW D n ad cy sa sz (cM cy ad (enc al th) ex) [.ref (ad 28), .int x]) (QDi D n ad sz (if k_back al x = 0 then v_back al x else 0) (cM cy ad (enc al (nI (k_back al x))) ex)) 3 80 (Acc n ad sz) := by
  refine zs_met (cc := cX4_back) (maxL := 4) (ret := (some .int)) (own := RX4) (by decide) rfl rfl (Nat.le_of_ble_eq_true rfl) ?_
  intro p e s m args below meth c ls S hE hW hr hlk hsz hav hl
  subst hsz
  have hx := S.1
  have hb := S.2.1
  have hown := S.2.2.2.1
  have hts := S.2.2.2.2
  have hl : lv_has ls 4 [(0, .ref (ad 28)), (1, .int x)] := hl
  have f28 := hts (.fieldLink RX4 28 "PumiceSledgeModel" "thrown" "I") (by decide +kernel)
  have hi4 : ∀ w ∈ wsX40, w ∈ wsX4_back := by decide +kernel
  refine lv_aload_n hx hb dX4_back_0 rfl (lv_at hl 0 rfl) ?_
  refine lv_iconst (v := 0) hx hb dX4_back_1 (by decide) ?_
  refine z_put (ce' := cM cy ad (zup (enc al th) 0 0 0) ex) (C := RX4) (T := TX4) (N := 9) (ci := 4) S hE hW hi4 tyX4 tyX4_ok nmX4 rfl (Nat.lt_of_lt_of_le (by decide) hn) cM_0 0 (by decide) rfl f28 rfl rfl (Nat.le_of_ble_eq_true rfl) (pM_0 (by decide)) (fun j h => cM_o h) dX4_back_2 (fun H locs hW => ?_)
  rw [e_th] at hW
  refine lv_aload_n hx hb dX4_back_5 rfl (lv_at hl 0 rfl) ?_
  refine lv_iload_n hx hb dX4_back_6 rfl (lv_at hl 1 rfl) ?_
  refine z_cVi (As := [.int x]) (rest := []) (k := 28) S hE hW (cX4_isSledge_ok l D n ad cy sa H.size hn al 0 ex x N (hN) hN6) (cwV 1 hts gX4_back_X4_isSledge rfl rfl rfl (by decide +kernel) ⟨Nat.le_of_ble_eq_true rfl, Nat.le_of_ble_eq_true rfl⟩) (Nat.lt_of_lt_of_le (by decide) hn) cM_0 rfl rfl rfl hl.1 rfl (Nat.le_of_ble_eq_true rfl) dX4_back_7 ⟨Nat.le_of_ble_eq_true rfl, Nat.le_of_ble_eq_true rfl⟩ (fun r _ H locs hp hW => ?_)
  subst hp
  refine lv_if_ne (tgt := 19) hx hb dX4_back_10 (by decide) (fun c10 => ?_) (fun c10 => ?_)
  · have c10 := zb_t c10
    obtain ⟨i, hi, rfl⟩ := zS_ex hN (by omega) c10
    refine lv_aload_n hx hb dX4_back_19 rfl (lv_at hl 0 rfl) ?_
    refine z_cK (rest := []) hn S hE hW (cX4_kept_ok l D n ad cy sa H.size hn (enc al 0) ex) (cwV 0 hts gX4_back_X4_kept rfl rfl rfl (by decide +kernel) ⟨Nat.le_of_ble_eq_true rfl, Nat.le_of_ble_eq_true rfl⟩) hl.1 rfl (Nat.le_of_ble_eq_true rfl) dX4_back_20 ⟨Nat.le_of_ble_eq_true rfl, Nat.le_of_ble_eq_true rfl⟩ (fun n2 ad2 ex2 H locs hn3 hadk hx0 hx1 hx2 hxo hW => ?_)
    have hn2 : 35 ≤ n2 := by omega
    have e28 : ad2 28 = ad 28 := hadk 28 (by omega)
    rw [← e28] at hl
    refine lv_astore_n (lv' := [(2, .ref (ad2 n)), (0, .ref (ad2 28)), (1, .int (nI i))]) hx hb dX4_back_23 rfl hl (by decide) rfl (fun ls hl => ?_)
    refine lv_iconst (v := 0) hx hb dX4_back_24 (by decide) ?_
    refine lv_istore_n (lv' := [(3, .int 0), (2, .ref (ad2 n)), (0, .ref (ad2 28)), (1, .int (nI i))]) hx hb dX4_back_25 rfl hl (by decide) rfl (fun ls hl => ?_)
    have L26 : ∀ (kq j : Nat) (hv : bk (gf al) 100 0 (rowS al i) = j + bk (gf al) kq j (rowS (hourN al j) i)) (H : Heap) (locs : List Loc) (ls : Array Slot), j + kq = 100 → WS D n2 ad2 (cM cy ad2 (enc (hourN al j) 0) ex2) (Acc n ad s.heap.size) s.heap H locs → lv_has ls 4 [(0, .ref (ad2 28)), (1, .int (nI i)), (2, .ref (ad2 n)), (3, .int (nI j))] → W p l e { frames := 3, cells := 3, slots := 80, locals := 102 } s m args below meth c H locs (0 + 3) (0 + 80) (MQ below (QDi D n ad s.heap.size (if k_back al (nI i) = 0 then v_back al (nI i) else 0) (cM cy ad (enc al (nI (k_back al (nI i)))) ex)) args s 3 80 (Acc n ad s.heap.size)) (F0 m 26 ls []) := by
      intro kq
      induction kq with
      | zero =>
        intro j hv H locs ls hjk hW hl
        have hjN : j = 100 := by omega
        try rw [hjN] at hW
        try rw [hjN] at hl
        have hb9 := hbk i hi
        exact absurd hv (by omega)
      | succ kq ih =>
        intro j hv H locs ls hjk hW hl
        have hj : j < 100 := by omega
        obtain ⟨i1, i2, i3⟩ := hourN_inv hN hN6 hh hab j
        refine lv_aload_n hx hb dX4_back_26 rfl (lv_at hl 0 rfl) ?_
        refine lv_iload_n hx hb dX4_back_27 rfl (lv_at hl 1 rfl) ?_
        refine lv_iconst (v := 3) hx hb dX4_back_28 (by decide) ?_
        refine z_cVi (As := [.int (nI i), .int 3]) (rest := []) (k := 28) S hE hW (cX4_sl_ok l D n2 ad2 cy sa H.size hn2 (enc (hourN al j) 0) ex2 i (by omega) 3 (by omega)) (cwV 2 hts gX4_back_X4_sl rfl rfl rfl (by decide +kernel) ⟨Nat.le_of_ble_eq_true rfl, Nat.le_of_ble_eq_true rfl⟩) (Nat.lt_of_lt_of_le (by decide) hn2) cM_0 rfl rfl rfl hl.1 rfl (Nat.le_of_ble_eq_true rfl) dX4_back_29 ⟨Nat.le_of_ble_eq_true rfl, Nat.le_of_ble_eq_true rfl⟩ (fun r _ H locs hp hW => ?_)
        subst hp
        refine z_top2 (y := (hourN al j) (10 + i) 4) (r_s3 (by omega)) ?_
        refine lv_if_eq (tgt := 45) hx hb dX4_back_32 (by decide) (fun c32 => ?_) (fun c32 => ?_)
        · have hJ : bk (gf al) 100 0 (rowS al i) = j := by rw [hv, show bk (gf al) (kq + 1) j (rowS (hourN al j) i) = 0 from if_pos c32]; rfl
          refine lv_aload_n hx hb dX4_back_45 rfl (lv_at hl 0 rfl) ?_
          refine lv_aload_n hx hb dX4_back_46 rfl (lv_at hl 2 rfl) ?_
          refine z_cVv (As := [.ref (ad2 n)]) (rest := []) (k := 28) S hE hW (cX4_bringBack_ok l D n2 ad2 cy sa H.size hn2 (enc (hourN al j) 0) ex2 n hn (by omega) (enc al 0 4) (enc al 0 6) hx0 hx1 hx2) (cwV 1 hts gX4_back_X4_bringBack rfl rfl rfl (by decide +kernel) ⟨Nat.le_of_ble_eq_true rfl, Nat.le_of_ble_eq_true rfl⟩) (Nat.lt_of_lt_of_le (by decide) hn2) cM_0 rfl rfl rfl hl.1 rfl (Nat.le_of_ble_eq_true rfl) dX4_back_47 ⟨Nat.le_of_ble_eq_true rfl, Nat.le_of_ble_eq_true rfl⟩ (fun _ H locs _ hW => ?_)
          replace hW := WS.cut (n0 := n) (ad0 := ad) (ce0 := cM cy ad (enc al 0) ex) (by omega) hadk (fun k hk => (congrFun (congrArg (fun z => cM cy ad2 z ex2) (e_backH hN hN6 hh hab j)) k).trans (cM_ad hn hk hadk hxo)) hW
          refine lv_iload_n hx hb dX4_back_50 rfl (lv_at hl 3 rfl) ?_
          have hk9 : k_back al (nI i) = 0 := by unfold k_back; rw [if_neg (fun h => h c10)]
          exact ze_i S hW hr hlk () (congrArg (fun z => cM cy ad z ex) (by rw [hk9] <;> rfl)) (by rw [hk9, if_pos rfl] <;> exact (by unfold v_back; rw [ix_nI (show i < 2 ^ 31 by omega), hJ])) (Nat.le_of_ble_eq_true rfl) (Nat.le_of_ble_eq_true rfl) dX4_back_51
        · have hv2 : bk (gf al) 100 0 (rowS al i) = (j + 1) + bk (gf al) kq (j + 1) (rowS (hourN al (j + 1)) i) := by rw [hv, show bk (gf al) (kq + 1) j (rowS (hourN al j) i) = bk (gf al) kq (j + 1) (trv (rowS (hourN al j) i) (gf al j)) + 1 from if_neg c32, hourN_row hN hN6 hh hh3 hab hi j (by omega)]; omega
          refine lv_aload_n hx hb dX4_back_35 rfl (lv_at hl 0 rfl) ?_
          refine z_cVv (As := []) (rest := []) (k := 28) S hE hW (cX4_hourOn_ok l D n2 ad2 cy sa H.size hn2 (hourN al j) 0 ex2 N i1 hN6 (h + j) i2 (by omega) i3) (cwV 0 hts gX4_back_X4_hourOn rfl rfl rfl (by decide +kernel) ⟨Nat.le_of_ble_eq_true rfl, Nat.le_of_ble_eq_true rfl⟩) (Nat.lt_of_lt_of_le (by decide) hn2) cM_0 rfl rfl rfl hl.1 rfl (Nat.le_of_ble_eq_true rfl) dX4_back_36 ⟨Nat.le_of_ble_eq_true rfl, Nat.le_of_ble_eq_true rfl⟩ (fun _ H locs _ hW => ?_)
          refine lv_iinc (v := nI (j + 1)) (lv' := [(3, .int (nI (j + 1))), (0, .ref (ad2 28)), (1, .int (nI i)), (2, .ref (ad2 n))]) hx hb dX4_back_39 hl (k := 3) rfl (nI_1 _) (by decide) rfl (fun ls hl => ?_)
          refine lv_goto (tgt := 26) hx hb dX4_back_42 (by decide) ?_
          exact ih (j + 1) hv2 H locs ls (by omega) hW (lv_sub hl [1, 2, 3, 0] rfl)
    exact L26 (100) 0 (by rw [Nat.zero_add]; rfl) _ _ ls (by omega) hW (lv_sub hl [2, 3, 1, 0] rfl)
  · have c10 := zb_f c10
    refine lv_aload_n hx hb dX4_back_13 rfl (lv_at hl 0 rfl) ?_
    refine lv_iconst (v := 1) hx hb dX4_back_14 (by decide) ?_
    refine z_cVi (As := [.int 1]) (rest := []) (k := 28) S hE hW (cX4_fail_ok l D n ad cy sa H.size hn al 0 ex 1) (cwV 1 hts gX4_back_X4_fail rfl rfl rfl (by decide +kernel) ⟨Nat.le_of_ble_eq_true rfl, Nat.le_of_ble_eq_true rfl⟩) (Nat.lt_of_lt_of_le (by decide) hn) cM_0 rfl rfl rfl hl.1 rfl (Nat.le_of_ble_eq_true rfl) dX4_back_15 ⟨Nat.le_of_ble_eq_true rfl, Nat.le_of_ble_eq_true rfl⟩ (fun r _ H locs hp hW => ?_)
    subst hp
    have hk9 : k_back al x = 1 := by unfold k_back; rw [if_pos c10]
    exact ze_i S hW hr hlk () (congrArg (fun z => cM cy ad z ex) (by rw [hk9] <;> rfl)) (by rw [hk9, if_neg (by decide)]) (Nat.le_of_ble_eq_true rfl) (Nat.le_of_ble_eq_true rfl) dX4_back_18
set_option maxHeartbeats 4000000 in
set_option maxRecDepth 100000 in
theorem cX4_arrives_ok (l : Launch) (D : va_G) (n : Nat) (ad cy sa : Nat → Nat) (sz : Nat) (hn : 35 ≤ n) (al : Nat → Nat → Int32) (th : Int32) (ex : Nat → va_E) (x : Int32) (N : Nat) (hN : al 0 4 = nI N) (hN6 : N ≤ 6) (h : Nat) (hh : al 0 8 = nI h) (hh3 : h < 2 ^ 29) (hab : abOK al) (har : ∀ i, i < N → ar (gf al) 100 0 (rowS (zup al (10 + i) 4 1) i) < 100) (hva : ∀ i, i < N → v_arrives al (nI i) = if al (10 + i) 4 = 2 then 0 else arS al i (gf al) (ar (gf al) 100 0 (rowS (zup al (10 + i) 4 1) i)) (10 + i) 2) : Met l yX4_arrives wsX4_arrives ({ frames := 2, cells := 3, slots := 80, locals := 81 }) (PW D n ad cy sa sz (cM cy ad (enc al th) ex) [.ref (ad 28), .int x]) (QDi D n ad sz (if k_arrives al x = 0 then v_arrives al x else 0) (cM cy ad (enc al (nI (k_arrives al x))) ex)) 3 80 (Acc n ad sz) := by
  refine zs_met (cc := cX4_arrives) (maxL := 4) (ret := (some .int)) (own := RX4) (by decide) rfl rfl (Nat.le_of_ble_eq_true rfl) ?_
  intro p e s m args below meth c ls S hE hW hr hlk hsz hav hl
  subst hsz
  have hx := S.1
  have hb := S.2.1
  have hown := S.2.2.2.1
  have hts := S.2.2.2.2
  have hl : lv_has ls 4 [(0, .ref (ad 28)), (1, .int x)] := hl
  have f28 := hts (.fieldLink RX4 28 "PumiceSledgeModel" "thrown" "I") (by decide +kernel)
  have hi4 : ∀ w ∈ wsX40, w ∈ wsX4_arrives := by decide +kernel
  have f25 := hts (.fieldLink RX4 25 "PumiceSledgeModel" "numbers" "[I") (by decide +kernel)
  refine lv_aload_n hx hb dX4_arrives_0 rfl (lv_at hl 0 rfl) ?_
  refine lv_iconst (v := 0) hx hb dX4_arrives_1 (by decide) ?_
  refine z_put (ce' := cM cy ad (zup (enc al th) 0 0 0) ex) (C := RX4) (T := TX4) (N := 9) (ci := 4) S hE hW hi4 tyX4 tyX4_ok nmX4 rfl (Nat.lt_of_lt_of_le (by decide) hn) cM_0 0 (by decide) rfl f28 rfl rfl (Nat.le_of_ble_eq_true rfl) (pM_0 (by decide)) (fun j h => cM_o h) dX4_arrives_2 (fun H locs hW => ?_)
  rw [e_th] at hW
  refine lv_aload_n hx hb dX4_arrives_5 rfl (lv_at hl 0 rfl) ?_
  refine lv_iload_n hx hb dX4_arrives_6 rfl (lv_at hl 1 rfl) ?_
  refine z_cVi (As := [.int x]) (rest := []) (k := 28) S hE hW (cX4_isSledge_ok l D n ad cy sa H.size hn al 0 ex x N (hN) hN6) (cwV 1 hts gX4_arrives_X4_isSledge rfl rfl rfl (by decide +kernel) ⟨Nat.le_of_ble_eq_true rfl, Nat.le_of_ble_eq_true rfl⟩) (Nat.lt_of_lt_of_le (by decide) hn) cM_0 rfl rfl rfl hl.1 rfl (Nat.le_of_ble_eq_true rfl) dX4_arrives_7 ⟨Nat.le_of_ble_eq_true rfl, Nat.le_of_ble_eq_true rfl⟩ (fun r _ H locs hp hW => ?_)
  subst hp
  refine lv_if_ne (tgt := 19) hx hb dX4_arrives_10 (by decide) (fun c10 => ?_) (fun c10 => ?_)
  · have c10 := zb_t c10
    obtain ⟨i, hi, rfl⟩ := zS_ex hN (by omega) c10
    refine lv_aload_n hx hb dX4_arrives_19 rfl (lv_at hl 0 rfl) ?_
    refine lv_iload_n hx hb dX4_arrives_20 rfl (lv_at hl 1 rfl) ?_
    refine lv_iconst (v := 3) hx hb dX4_arrives_21 (by decide) ?_
    refine z_cVi (As := [.int (nI i), .int 3]) (rest := []) (k := 28) S hE hW (cX4_sl_ok l D n ad cy sa H.size hn (enc al 0) ex i (by omega) 3 (by omega)) (cwV 2 hts gX4_arrives_X4_sl rfl rfl rfl (by decide +kernel) ⟨Nat.le_of_ble_eq_true rfl, Nat.le_of_ble_eq_true rfl⟩) (Nat.lt_of_lt_of_le (by decide) hn) cM_0 rfl rfl rfl hl.1 rfl (Nat.le_of_ble_eq_true rfl) dX4_arrives_22 ⟨Nat.le_of_ble_eq_true rfl, Nat.le_of_ble_eq_true rfl⟩ (fun r _ H locs hp hW => ?_)
    subst hp
    refine z_top2 (y := al (10 + i) 4) (r_s3 (by omega)) ?_
    refine lv_iconst (v := 2) hx hb dX4_arrives_25 (by decide) ?_
    refine lv_icmp_ne (tgt := 31) hx hb dX4_arrives_26 (by decide) (fun c26 => ?_) (fun c26 => ?_)
    · refine lv_aload_n hx hb dX4_arrives_31 rfl (lv_at hl 0 rfl) ?_
      refine z_cK (rest := []) hn S hE hW (cX4_kept_ok l D n ad cy sa H.size hn (enc al 0) ex) (cwV 0 hts gX4_arrives_X4_kept rfl rfl rfl (by decide +kernel) ⟨Nat.le_of_ble_eq_true rfl, Nat.le_of_ble_eq_true rfl⟩) hl.1 rfl (Nat.le_of_ble_eq_true rfl) dX4_arrives_32 ⟨Nat.le_of_ble_eq_true rfl, Nat.le_of_ble_eq_true rfl⟩ (fun n2 ad2 ex2 H locs hn3 hadk hx0 hx1 hx2 hxo hW => ?_)
      have hn2 : 35 ≤ n2 := by omega
      have e28 : ad2 28 = ad 28 := hadk 28 (by omega)
      rw [← e28] at hl
      refine lv_astore_n (lv' := [(2, .ref (ad2 n)), (0, .ref (ad2 28)), (1, .int (nI i))]) hx hb dX4_arrives_35 rfl hl (by decide) rfl (fun ls hl => ?_)
      refine lv_iconst (v := 0) hx hb dX4_arrives_36 (by decide) ?_
      refine lv_istore_n (lv' := [(3, .int 0), (2, .ref (ad2 n)), (0, .ref (ad2 28)), (1, .int (nI i))]) hx hb dX4_arrives_37 rfl hl (by decide) rfl (fun ls hl => ?_)
      refine lv_aload_n hx hb dX4_arrives_38 rfl (lv_at hl 2 rfl) ?_
      refine lv_iload_n hx hb dX4_arrives_39 rfl (lv_at hl 3 rfl) ?_
      refine lv_iconst (v := 3) hx hb dX4_arrives_40 (by decide) ?_
      refine lv_iconst (v := 1) hx hb dX4_arrives_41 (by decide) ?_
      refine z_cVv (As := [.int (nI i), .int 3, .int 1]) (rest := []) (k := 28) S hE hW (cX4_put_ok l D n2 ad2 cy sa H.size hn2 (enc al 0) ex2 i (by omega) 3 (by omega) 1) (cwV 3 hts gX4_arrives_X4_put rfl rfl rfl (by decide +kernel) ⟨Nat.le_of_ble_eq_true rfl, Nat.le_of_ble_eq_true rfl⟩) (Nat.lt_of_lt_of_le (by decide) hn2) cM_0 rfl rfl rfl hl.1 rfl (Nat.le_of_ble_eq_true rfl) dX4_arrives_42 ⟨Nat.le_of_ble_eq_true rfl, Nat.le_of_ble_eq_true rfl⟩ (fun _ H locs _ hW => ?_)
      rw [e_s3 (by omega)] at hW
      have L45 : ∀ (kq j : Nat) (hv : ar (gf al) 100 0 (rowS (zup al (10 + i) 4 1) i) = j + ar (gf al) kq j (rowS (arS al i (gf al) j) i)) (tv : Int32) (htv : j = 0 ∨ tv = arS al i (gf al) j (10 + i) 2) (H : Heap) (locs : List Loc) (ls : Array Slot), j + kq = 100 → WS D n2 ad2 (cM cy ad2 (enc (arS al i (gf al) j) 0) ex2) (Acc n ad s.heap.size) s.heap H locs → lv_has ls 4 [(0, .ref (ad2 28)), (1, .int (nI i)), (2, .ref (ad2 n)), (3, .int tv)] → W p l e { frames := 2, cells := 3, slots := 80, locals := 81 } s m args below meth c H locs (0 + 3) (0 + 80) (MQ below (QDi D n ad s.heap.size (if k_arrives al (nI i) = 0 then v_arrives al (nI i) else 0) (cM cy ad (enc al (nI (k_arrives al (nI i)))) ex)) args s 3 80 (Acc n ad s.heap.size)) (F0 m 45 ls []) := by
        intro kq
        induction kq with
        | zero =>
          intro j hv tv htv H locs ls hjk hW hl
          have hjN : j = 100 := by omega
          try rw [hjN] at hW
          try rw [hjN] at hl
          have hb9 := har i hi
          exact absurd hv (by omega)
        | succ kq ih =>
          intro j hv tv htv H locs ls hjk hW hl
          have hj : j < 100 := by omega
          have i1 : (arS al i (gf al) j) 0 4 = nI N := (arS_0 (by decide) j).trans hN
          have i2 : (arS al i (gf al) j) 0 8 = nI (h + j) := arS_h hh j
          have i3 : (arS al i (gf al) j) 3 ((h + j) % 8) = gf al j := (congrFun (arS_o (by decide) (by omega) (by decide) j) _).trans (congrFun (gf_eq hh (by omega)) j).symm
          have i4 : (slideS (arS al i (gf al) j) i 0 (gf al j)) 0 4 = nI N := (congrFun (slideS_o (by omega) (by decide)) 4).trans i1
          refine lv_aload_n hx hb dX4_arrives_45 rfl (lv_at hl 0 rfl) ?_
          refine lv_iload_n hx hb dX4_arrives_46 rfl (lv_at hl 1 rfl) ?_
          refine lv_iconst (v := 3) hx hb dX4_arrives_47 (by decide) ?_
          refine z_cVi (As := [.int (nI i), .int 3]) (rest := []) (k := 28) S hE hW (cX4_sl_ok l D n2 ad2 cy sa H.size hn2 (enc (arS al i (gf al) j) 0) ex2 i (by omega) 3 (by omega)) (cwV 2 hts gX4_arrives_X4_sl rfl rfl rfl (by decide +kernel) ⟨Nat.le_of_ble_eq_true rfl, Nat.le_of_ble_eq_true rfl⟩) (Nat.lt_of_lt_of_le (by decide) hn2) cM_0 rfl rfl rfl hl.1 rfl (Nat.le_of_ble_eq_true rfl) dX4_arrives_48 ⟨Nat.le_of_ble_eq_true rfl, Nat.le_of_ble_eq_true rfl⟩ (fun r _ H locs hp hW => ?_)
          subst hp
          refine z_top2 (y := (arS al i (gf al) j) (10 + i) 4) (r_s3 (by omega)) ?_
          refine lv_iconst (v := 1) hx hb dX4_arrives_51 (by decide) ?_
          refine lv_icmp_ne (tgt := 96) hx hb dX4_arrives_52 (by decide) (fun c52 => ?_) (fun c52 => ?_)
          · have hj0 : j ≠ 0 := fun q => by subst q; exact c52 ((congrFun zup_k 4).trans up_s)
            have hJ : ar (gf al) 100 0 (rowS (zup al (10 + i) 4 1) i) = j := by rw [hv, show ar (gf al) (kq + 1) j (rowS (arS al i (gf al) j) i) = 0 from if_pos c52]; rfl
            have htv2 : tv = arS al i (gf al) (ar (gf al) 100 0 (rowS (zup al (10 + i) 4 1) i)) (10 + i) 2 := by rw [hJ]; exact htv.resolve_left hj0
            refine lv_aload_n hx hb dX4_arrives_96 rfl (lv_at hl 0 rfl) ?_
            refine lv_aload_n hx hb dX4_arrives_97 rfl (lv_at hl 2 rfl) ?_
            refine z_cVv (As := [.ref (ad2 n)]) (rest := []) (k := 28) S hE hW (cX4_bringBack_ok l D n2 ad2 cy sa H.size hn2 (enc (arS al i (gf al) j) 0) ex2 n hn (by omega) (enc al 0 4) (enc al 0 6) hx0 hx1 hx2) (cwV 1 hts gX4_arrives_X4_bringBack rfl rfl rfl (by decide +kernel) ⟨Nat.le_of_ble_eq_true rfl, Nat.le_of_ble_eq_true rfl⟩) (Nat.lt_of_lt_of_le (by decide) hn2) cM_0 rfl rfl rfl hl.1 rfl (Nat.le_of_ble_eq_true rfl) dX4_arrives_98 ⟨Nat.le_of_ble_eq_true rfl, Nat.le_of_ble_eq_true rfl⟩ (fun _ H locs _ hW => ?_)
            replace hW := WS.cut (n0 := n) (ad0 := ad) (ce0 := cM cy ad (enc al 0) ex) (by omega) hadk (fun k hk => (congrFun (congrArg (fun z => cM cy ad2 z ex2) (e_backA (by omega) j)) k).trans (cM_ad hn hk hadk hxo)) hW
            refine lv_iload_n hx hb dX4_arrives_101 rfl (lv_at hl 3 rfl) ?_
            have hk9 : k_arrives al (nI i) = 0 := by unfold k_arrives; rw [if_neg (fun h => h c10)]
            exact ze_i S hW hr hlk () (congrArg (fun z => cM cy ad z ex) (by rw [hk9] <;> rfl)) (by rw [hk9, if_pos rfl] <;> exact (by rw [hva i hi, if_neg c26]; exact htv2)) (Nat.le_of_ble_eq_true rfl) (Nat.le_of_ble_eq_true rfl) dX4_arrives_102
          · have hv2 : ar (gf al) 100 0 (rowS (zup al (10 + i) 4 1) i) = (j + 1) + ar (gf al) kq (j + 1) (rowS (arS al i (gf al) (j + 1)) i) := by rw [hv, show ar (gf al) (kq + 1) j (rowS (arS al i (gf al) j) i) = ar (gf al) kq (j + 1) (trv (rowS (arS al i (gf al) j) i) (gf al j)) + 1 from if_neg (fun q => q c52), arS_row kq j c52]; omega
            refine lv_aload_n hx hb dX4_arrives_55 rfl (lv_at hl 0 rfl) ?_
            refine lv_iload_n hx hb dX4_arrives_56 rfl (lv_at hl 1 rfl) ?_
            refine z_cVv (As := [.int (nI i)]) (rest := []) (k := 28) S hE hW (cX4_slide_ok l D n2 ad2 cy sa H.size hn2 (arS al i (gf al) j) 0 ex2 N (i1) hN6 i (by omega) (h + j) (i2) (by omega)) (cwV 1 hts gX4_arrives_X4_slide rfl rfl rfl (by decide +kernel) ⟨Nat.le_of_ble_eq_true rfl, Nat.le_of_ble_eq_true rfl⟩) (Nat.lt_of_lt_of_le (by decide) hn2) cM_0 rfl rfl rfl hl.1 rfl (Nat.le_of_ble_eq_true rfl) dX4_arrives_57 ⟨Nat.le_of_ble_eq_true rfl, Nat.le_of_ble_eq_true rfl⟩ (fun _ H locs _ hW => ?_)
            replace hW := hW.to (congrArg (fun z => cM cy ad2 (enc z 0) ex2) (show slideS (arS al i (gf al) j) i 0 ((arS al i (gf al) j) 3 ((h + j) % 8)) = slideS (arS al i (gf al) j) i 0 (gf al j) from by rw [i3]))
            refine lv_aload_n hx hb dX4_arrives_60 rfl (lv_at hl 0 rfl) ?_
            refine lv_iload_n hx hb dX4_arrives_61 rfl (lv_at hl 1 rfl) ?_
            refine lv_iconst (v := 1) hx hb dX4_arrives_62 (by decide) ?_
            refine z_cVi (As := [.int (nI i), .int 1]) (rest := []) (k := 28) S hE hW (cX4_sl_ok l D n2 ad2 cy sa H.size hn2 (enc (slideS (arS al i (gf al) j) i 0 (gf al j)) 0) ex2 i (by omega) 1 (by omega)) (cwV 2 hts gX4_arrives_X4_sl rfl rfl rfl (by decide +kernel) ⟨Nat.le_of_ble_eq_true rfl, Nat.le_of_ble_eq_true rfl⟩) (Nat.lt_of_lt_of_le (by decide) hn2) cM_0 rfl rfl rfl hl.1 rfl (Nat.le_of_ble_eq_true rfl) dX4_arrives_63 ⟨Nat.le_of_ble_eq_true rfl, Nat.le_of_ble_eq_true rfl⟩ (fun r _ H locs hp hW => ?_)
            subst hp
            refine z_top2 (y := (slideS (arS al i (gf al) j) i 0 (gf al j)) (10 + i) 2) (r_s1 (by omega)) ?_
            refine lv_istore_n (lv' := [(3, .int ((slideS (arS al i (gf al) j) i 0 (gf al j)) (10 + i) 2)), (0, .ref (ad2 28)), (1, .int (nI i)), (2, .ref (ad2 n))]) hx hb dX4_arrives_66 rfl hl (by decide) rfl (fun ls hl => ?_)
            refine lv_aload_n hx hb dX4_arrives_67 rfl (lv_at hl 1 rfl) ?_
            refine lv_iload_n hx hb dX4_arrives_68 rfl (lv_at hl 2 rfl) ?_
            refine lv_iconst (v := 2) hx hb dX4_arrives_69 (by decide) ?_
            refine z_cVi (As := [.int (nI i), .int 2]) (rest := []) (k := 28) S hE hW (cX4_sl_ok l D n2 ad2 cy sa H.size hn2 (enc (slideS (arS al i (gf al) j) i 0 (gf al j)) 0) ex2 i (by omega) 2 (by omega)) (cwV 2 hts gX4_arrives_X4_sl rfl rfl rfl (by decide +kernel) ⟨Nat.le_of_ble_eq_true rfl, Nat.le_of_ble_eq_true rfl⟩) (Nat.lt_of_lt_of_le (by decide) hn2) cM_0 rfl rfl rfl hl.1 rfl (Nat.le_of_ble_eq_true rfl) dX4_arrives_70 ⟨Nat.le_of_ble_eq_true rfl, Nat.le_of_ble_eq_true rfl⟩ (fun r _ H locs hp hW => ?_)
            subst hp
            refine z_top2 (y := (slideS (arS al i (gf al) j) i 0 (gf al j)) (10 + i) 3) (r_s2 (by omega) (z_inN (i4) (by omega) (by omega))) ?_
            refine lv_if_ne (tgt := 83) hx hb dX4_arrives_73 (by decide) (fun c73 => ?_) (fun c73 => ?_)
            · refine lv_aload_n hx hb dX4_arrives_83 rfl (lv_at hl 1 rfl) ?_
              refine z_get (C := RX4) (T := TX4) (N := 9) (ci := 4) S hE hW hi4 rfl (Nat.lt_of_lt_of_le (by decide) hn2) cM_0 8 (by decide) rfl f25 (v := .ref (ad2 34)) rfl dX4_arrives_84 ?_
              refine lv_iconst (v := 0) hx hb dX4_arrives_87 (by decide) ?_
              refine lv_dup2_11 hx hb dX4_arrives_88 rfl rfl ?_
              refine z_ald S hE hW (Nat.lt_of_lt_of_le (by decide) hn2) cM_6 0 rfl (by decide) (by decide) (v := (slideS (arS al i (gf al) j) i 0 (gf al j)) 0 8) (r_m0) dX4_arrives_89 ?_
              refine lv_iconst (v := 1) hx hb dX4_arrives_90 (by decide) ?_
              refine lv_iadd hx hb dX4_arrives_91 ?_
              refine z_ast (ce' := cM cy ad2 (zup (enc (slideS (arS al i (gf al) j) i 0 (gf al j)) 0) 6 0 ((slideS (arS al i (gf al) j) i 0 (gf al j)) 0 8 + 1)) ex2) S hE hW (Nat.lt_of_lt_of_le (by decide) hn2) cM_6 0 rfl (by decide) (by decide) pM_6 (fun j h => cM_o h) dX4_arrives_92 (fun H locs hW => ?_)
              rw [e_m0] at hW
              replace hW := hW.to (congrArg (fun z => cM cy ad2 (enc z 0) ex2) (show (zup (slideS (arS al i (gf al) j) i 0 (gf al j)) 0 8 ((slideS (arS al i (gf al) j) i 0 (gf al j)) 0 8 + 1)) = arE (slideS (arS al i (gf al) j) i 0 (gf al j)) i from by unfold arE; rw [if_neg c73]))
              refine lv_goto (tgt := 45) hx hb dX4_arrives_93 (by decide) ?_
              exact ih (j + 1) hv2 _ (Or.inr (by show _ = arE (slideS (arS al i (gf al) j) i 0 (gf al j)) i (10 + i) 2; rw [show arE (slideS (arS al i (gf al) j) i 0 (gf al j)) i (10 + i) 2 = (rowS (arE (slideS (arS al i (gf al) j) i 0 (gf al j)) i) i).1 from rfl, arE_row])) H locs ls (by omega) hW (lv_sub hl [1, 2, 3, 0] rfl)
            · refine lv_aload_n hx hb dX4_arrives_76 rfl (lv_at hl 1 rfl) ?_
              refine lv_iload_n hx hb dX4_arrives_77 rfl (lv_at hl 2 rfl) ?_
              refine lv_iconst (v := 3) hx hb dX4_arrives_78 (by decide) ?_
              refine lv_iconst (v := 2) hx hb dX4_arrives_79 (by decide) ?_
              refine z_cVv (As := [.int (nI i), .int 3, .int 2]) (rest := []) (k := 28) S hE hW (cX4_put_ok l D n2 ad2 cy sa H.size hn2 (enc (slideS (arS al i (gf al) j) i 0 (gf al j)) 0) ex2 i (by omega) 3 (by omega) 2) (cwV 3 hts gX4_arrives_X4_put rfl rfl rfl (by decide +kernel) ⟨Nat.le_of_ble_eq_true rfl, Nat.le_of_ble_eq_true rfl⟩) (Nat.lt_of_lt_of_le (by decide) hn2) cM_0 rfl rfl rfl hl.1 rfl (Nat.le_of_ble_eq_true rfl) dX4_arrives_80 ⟨Nat.le_of_ble_eq_true rfl, Nat.le_of_ble_eq_true rfl⟩ (fun _ H locs _ hW => ?_)
              rw [e_s3 (by omega)] at hW
              refine lv_aload_n hx hb dX4_arrives_83 rfl (lv_at hl 1 rfl) ?_
              refine z_get (C := RX4) (T := TX4) (N := 9) (ci := 4) S hE hW hi4 rfl (Nat.lt_of_lt_of_le (by decide) hn2) cM_0 8 (by decide) rfl f25 (v := .ref (ad2 34)) rfl dX4_arrives_84 ?_
              refine lv_iconst (v := 0) hx hb dX4_arrives_87 (by decide) ?_
              refine lv_dup2_11 hx hb dX4_arrives_88 rfl rfl ?_
              refine z_ald S hE hW (Nat.lt_of_lt_of_le (by decide) hn2) cM_6 0 rfl (by decide) (by decide) (v := (slideS (arS al i (gf al) j) i 0 (gf al j)) 0 8) ((r_m0).trans (congrFun (zup_o (by omega)) 8)) dX4_arrives_89 ?_
              refine lv_iconst (v := 1) hx hb dX4_arrives_90 (by decide) ?_
              refine lv_iadd hx hb dX4_arrives_91 ?_
              refine z_ast (ce' := cM cy ad2 (zup (enc (zup (slideS (arS al i (gf al) j) i 0 (gf al j)) (10 + i) 4 2) 0) 6 0 ((slideS (arS al i (gf al) j) i 0 (gf al j)) 0 8 + 1)) ex2) S hE hW (Nat.lt_of_lt_of_le (by decide) hn2) cM_6 0 rfl (by decide) (by decide) pM_6 (fun j h => cM_o h) dX4_arrives_92 (fun H locs hW => ?_)
              rw [e_m0] at hW
              replace hW := hW.to (congrArg (fun z => cM cy ad2 (enc z 0) ex2) (show (zup (zup (slideS (arS al i (gf al) j) i 0 (gf al j)) (10 + i) 4 2) 0 8 ((slideS (arS al i (gf al) j) i 0 (gf al j)) 0 8 + 1)) = arE (slideS (arS al i (gf al) j) i 0 (gf al j)) i from by unfold arE; rw [if_pos c73]))
              refine lv_goto (tgt := 45) hx hb dX4_arrives_93 (by decide) ?_
              exact ih (j + 1) hv2 _ (Or.inr (by show _ = arE (slideS (arS al i (gf al) j) i 0 (gf al j)) i (10 + i) 2; rw [show arE (slideS (arS al i (gf al) j) i 0 (gf al j)) i (10 + i) 2 = (rowS (arE (slideS (arS al i (gf al) j) i 0 (gf al j)) i) i).1 from rfl, arE_row])) H locs ls (by omega) hW (lv_sub hl [1, 2, 3, 0] rfl)
      exact L45 (100) 0 (by rw [Nat.zero_add]; rfl) _ (Or.inl rfl) _ _ ls (by omega) hW (lv_sub hl [2, 3, 1, 0] rfl)
    · refine lv_iconst (v := 0) hx hb dX4_arrives_29 (by decide) ?_
      have hk9 : k_arrives al (nI i) = 0 := by unfold k_arrives; rw [if_neg (fun h => h c10)]
      exact ze_i S hW hr hlk () (congrArg (fun z => cM cy ad z ex) (by rw [hk9] <;> rfl)) (by rw [hk9, if_pos rfl] <;> exact (by rw [hva i hi, if_pos c26])) (Nat.le_of_ble_eq_true rfl) (Nat.le_of_ble_eq_true rfl) dX4_arrives_30
  · have c10 := zb_f c10
    refine lv_aload_n hx hb dX4_arrives_13 rfl (lv_at hl 0 rfl) ?_
    refine lv_iconst (v := 1) hx hb dX4_arrives_14 (by decide) ?_
    refine z_cVi (As := [.int 1]) (rest := []) (k := 28) S hE hW (cX4_fail_ok l D n ad cy sa H.size hn al 0 ex 1) (cwV 1 hts gX4_arrives_X4_fail rfl rfl rfl (by decide +kernel) ⟨Nat.le_of_ble_eq_true rfl, Nat.le_of_ble_eq_true rfl⟩) (Nat.lt_of_lt_of_le (by decide) hn) cM_0 rfl rfl rfl hl.1 rfl (Nat.le_of_ble_eq_true rfl) dX4_arrives_15 ⟨Nat.le_of_ble_eq_true rfl, Nat.le_of_ble_eq_true rfl⟩ (fun r _ H locs hp hW => ?_)
    subst hp
    have hk9 : k_arrives al x = 1 := by unfold k_arrives; rw [if_pos c10]
    exact ze_i S hW hr hlk () (congrArg (fun z => cM cy ad z ex) (by rw [hk9] <;> rfl)) (by rw [hk9, if_neg (by decide)]) (Nat.le_of_ble_eq_true rfl) (Nat.le_of_ble_eq_true rfl) dX4_arrives_18
set_option maxHeartbeats 4000000 in
set_option maxRecDepth 100000 in
theorem cX4_foresee_ok (l : Launch) (D : va_G) (n : Nat) (ad cy sa : Nat → Nat) (sz : Nat) (hn : 35 ≤ n) (al : Nat → Nat → Int32) (th : Int32) (ex : Nat → va_E) (x : Int32) (y : Int32) (N : Nat) (hN : al 0 4 = nI N) (hN6 : N ≤ 6) (h : Nat) (hh : al 0 8 = nI h) (hh3 : h < 2 ^ 29) (hab : abOK al) (hfo : ∀ T q, T < 61 → 5 ≤ q → q < 8 → v_foresee al (nI T) (nI q) = v_count (hourN al T) (nI q)) : Met l yX4_foresee wsX4_foresee ({ frames := 4, cells := 3, slots := 80, locals := 125 }) (PW D n ad cy sa sz (cM cy ad (enc al th) ex) [.ref (ad 28), .int x, .int y]) (QDi D n ad sz (if k_foresee al x y = 0 then v_foresee al x y else 0) (cM cy ad (enc al (nI (k_foresee al x y))) ex)) 3 80 (Acc n ad sz) := by
  refine zs_met (cc := cX4_foresee) (maxL := 5) (ret := (some .int)) (own := RX4) (by decide) rfl rfl (Nat.le_of_ble_eq_true rfl) ?_
  intro p e s m args below meth c ls S hE hW hr hlk hsz hav hl
  subst hsz
  have hx := S.1
  have hb := S.2.1
  have hown := S.2.2.2.1
  have hts := S.2.2.2.2
  have hl : lv_has ls 5 [(0, .ref (ad 28)), (1, .int x), (2, .int y)] := hl
  have f28 := hts (.fieldLink RX4 28 "PumiceSledgeModel" "thrown" "I") (by decide +kernel)
  have hi4 : ∀ w ∈ wsX40, w ∈ wsX4_foresee := by decide +kernel
  refine lv_aload_n hx hb dX4_foresee_0 rfl (lv_at hl 0 rfl) ?_
  refine lv_iconst (v := 0) hx hb dX4_foresee_1 (by decide) ?_
  refine z_put (ce' := cM cy ad (zup (enc al th) 0 0 0) ex) (C := RX4) (T := TX4) (N := 9) (ci := 4) S hE hW hi4 tyX4 tyX4_ok nmX4 rfl (Nat.lt_of_lt_of_le (by decide) hn) cM_0 0 (by decide) rfl f28 rfl rfl (Nat.le_of_ble_eq_true rfl) (pM_0 (by decide)) (fun j h => cM_o h) dX4_foresee_2 (fun H locs hW => ?_)
  rw [e_th] at hW
  refine lv_iload_n hx hb dX4_foresee_5 rfl (lv_at hl 1 rfl) ?_
  refine lv_iconst (v := 1) hx hb dX4_foresee_6 (by decide) ?_
  refine lv_bipush (v := 60) hx hb dX4_foresee_7 (by decide) ?_
  refine z_pS (As := [.int x, .int 1, .int 60]) (rest := []) S hE hW (cX4_isIn_ok l x 1 60) (va_cwS 3 hts gX4_foresee_X4_isIn rfl rfl rfl (by decide +kernel) ⟨Nat.le_of_ble_eq_true rfl, Nat.le_of_ble_eq_true rfl⟩) rfl hl.1 rfl (Nat.le_of_ble_eq_true rfl) dX4_foresee_9 ⟨Nat.le_of_ble_eq_true rfl, Nat.le_of_ble_eq_true rfl⟩ (fun H locs hW => ?_)
  refine lv_if_ne (tgt := 21) hx hb dX4_foresee_12 (by decide) (fun c12 => ?_) (fun c12 => ?_)
  · have c12 := zb_t c12
    refine lv_iload_n hx hb dX4_foresee_21 rfl (lv_at hl 2 rfl) ?_
    refine lv_iconst (v := 5) hx hb dX4_foresee_22 (by decide) ?_
    refine lv_bipush (v := 7) hx hb dX4_foresee_23 (by decide) ?_
    refine z_pS (As := [.int y, .int 5, .int 7]) (rest := []) S hE hW (cX4_isIn_ok l y 5 7) (va_cwS 3 hts gX4_foresee_X4_isIn rfl rfl rfl (by decide +kernel) ⟨Nat.le_of_ble_eq_true rfl, Nat.le_of_ble_eq_true rfl⟩) rfl hl.1 rfl (Nat.le_of_ble_eq_true rfl) dX4_foresee_25 ⟨Nat.le_of_ble_eq_true rfl, Nat.le_of_ble_eq_true rfl⟩ (fun H locs hW => ?_)
    refine lv_if_ne (tgt := 37) hx hb dX4_foresee_28 (by decide) (fun c28 => ?_) (fun c28 => ?_)
    · have c28 := zb_t c28
      obtain ⟨T, hT1, hT60, rfl⟩ := zIn_ex1 1 60 rfl rfl (by decide) (by decide) c12
      obtain ⟨q, hq5, hq8, rfl⟩ := zIn_ex1 5 7 rfl rfl (by decide) (by decide) c28
      obtain ⟨i1, i2, i3⟩ := hourN_inv hN hN6 hh hab T
      refine lv_aload_n hx hb dX4_foresee_37 rfl (lv_at hl 0 rfl) ?_
      refine z_cK (rest := []) hn S hE hW (cX4_kept_ok l D n ad cy sa H.size hn (enc al 0) ex) (cwV 0 hts gX4_foresee_X4_kept rfl rfl rfl (by decide +kernel) ⟨Nat.le_of_ble_eq_true rfl, Nat.le_of_ble_eq_true rfl⟩) hl.1 rfl (Nat.le_of_ble_eq_true rfl) dX4_foresee_38 ⟨Nat.le_of_ble_eq_true rfl, Nat.le_of_ble_eq_true rfl⟩ (fun n2 ad2 ex2 H locs hn3 hadk hx0 hx1 hx2 hxo hW => ?_)
      have hn2 : 35 ≤ n2 := by omega
      have e28 : ad2 28 = ad 28 := hadk 28 (by omega)
      rw [← e28] at hl
      refine lv_astore_n (lv' := [(3, .ref (ad2 n)), (0, .ref (ad2 28)), (1, .int (nI T)), (2, .int (nI q))]) hx hb dX4_foresee_41 rfl hl (by decide) rfl (fun ls hl => ?_)
      refine lv_aload_n hx hb dX4_foresee_42 rfl (lv_at hl 1 rfl) ?_
      refine lv_iload_n hx hb dX4_foresee_43 rfl (lv_at hl 2 rfl) ?_
      refine z_cVi (As := [.int (nI T)]) (rest := []) (k := 28) S hE hW (cX4_hoursOn_ok l D n2 ad2 cy sa H.size hn2 al 0 ex2 T (by omega) N hN hN6 h hh hh3 hab) (cwV 1 hts gX4_foresee_X4_hoursOn rfl rfl rfl (by decide +kernel) ⟨Nat.le_of_ble_eq_true rfl, Nat.le_of_ble_eq_true rfl⟩) (Nat.lt_of_lt_of_le (by decide) hn2) cM_0 rfl rfl rfl hl.1 rfl (Nat.le_of_ble_eq_true rfl) dX4_foresee_44 ⟨Nat.le_of_ble_eq_true rfl, Nat.le_of_ble_eq_true rfl⟩ (fun r _ H locs hp hW => ?_)
      subst hp
      refine lv_pop hx hb dX4_foresee_47 rfl ?_
      refine lv_aload_n hx hb dX4_foresee_48 rfl (lv_at hl 1 rfl) ?_
      refine lv_iload_n hx hb dX4_foresee_49 rfl (lv_at hl 3 rfl) ?_
      refine z_cVi (As := [.int (nI q)]) (rest := []) (k := 28) S hE hW (cX4_counted_ok l D n2 ad2 cy sa H.size hn2 (hourN al T) 0 ex2 N (i1) hN6 (h + T) (i2) (by omega) q (by omega)) (cwV 1 hts gX4_foresee_X4_counted rfl rfl rfl (by decide +kernel) ⟨Nat.le_of_ble_eq_true rfl, Nat.le_of_ble_eq_true rfl⟩) (Nat.lt_of_lt_of_le (by decide) hn2) cM_0 rfl rfl rfl hl.1 rfl (Nat.le_of_ble_eq_true rfl) dX4_foresee_50 ⟨Nat.le_of_ble_eq_true rfl, Nat.le_of_ble_eq_true rfl⟩ (fun r _ H locs hp hW => ?_)
      subst hp
      refine lv_istore (lv' := [(4, .int (v_count (hourN al T) (nI q))), (3, .ref (ad2 n)), (0, .ref (ad2 28)), (1, .int (nI T)), (2, .int (nI q))]) hx hb dX4_foresee_53 hl (by decide) rfl (fun ls hl => ?_)
      refine lv_aload_n hx hb dX4_foresee_55 rfl (lv_at hl 2 rfl) ?_
      refine lv_aload_n hx hb dX4_foresee_56 rfl (lv_at hl 1 rfl) ?_
      refine z_cVv (As := [.ref (ad2 n)]) (rest := []) (k := 28) S hE hW (cX4_bringBack_ok l D n2 ad2 cy sa H.size hn2 (enc (hourN al T) 0) ex2 n hn (by omega) (enc al 0 4) (enc al 0 6) hx0 hx1 hx2) (cwV 1 hts gX4_foresee_X4_bringBack rfl rfl rfl (by decide +kernel) ⟨Nat.le_of_ble_eq_true rfl, Nat.le_of_ble_eq_true rfl⟩) (Nat.lt_of_lt_of_le (by decide) hn2) cM_0 rfl rfl rfl hl.1 rfl (Nat.le_of_ble_eq_true rfl) dX4_foresee_57 ⟨Nat.le_of_ble_eq_true rfl, Nat.le_of_ble_eq_true rfl⟩ (fun _ H locs _ hW => ?_)
      replace hW := WS.cut (n0 := n) (ad0 := ad) (ce0 := cM cy ad (enc al 0) ex) (by omega) hadk (fun k hk => (congrFun (congrArg (fun z => cM cy ad2 z ex2) (e_backH hN hN6 hh hab T)) k).trans (cM_ad hn hk hadk hxo)) hW
      refine lv_iload hx hb dX4_foresee_60 (lv_at hl 0 rfl) ?_
      have hk9 : k_foresee al (nI T) (nI q) = 0 := by unfold k_foresee; rw [if_neg (fun h => h c12), if_neg (fun h => h c28)]
      exact ze_i S hW hr hlk () (congrArg (fun z => cM cy ad z ex) (by rw [hk9] <;> rfl)) (by rw [hk9, if_pos rfl] <;> exact (by rw [hfo T q (by omega) (by omega) (by omega)])) (Nat.le_of_ble_eq_true rfl) (Nat.le_of_ble_eq_true rfl) dX4_foresee_62
    · have c28 := zb_f c28
      refine lv_aload_n hx hb dX4_foresee_31 rfl (lv_at hl 0 rfl) ?_
      refine lv_iconst (v := 2) hx hb dX4_foresee_32 (by decide) ?_
      refine z_cVi (As := [.int 2]) (rest := []) (k := 28) S hE hW (cX4_fail_ok l D n ad cy sa H.size hn al 0 ex 2) (cwV 1 hts gX4_foresee_X4_fail rfl rfl rfl (by decide +kernel) ⟨Nat.le_of_ble_eq_true rfl, Nat.le_of_ble_eq_true rfl⟩) (Nat.lt_of_lt_of_le (by decide) hn) cM_0 rfl rfl rfl hl.1 rfl (Nat.le_of_ble_eq_true rfl) dX4_foresee_33 ⟨Nat.le_of_ble_eq_true rfl, Nat.le_of_ble_eq_true rfl⟩ (fun r _ H locs hp hW => ?_)
      subst hp
      have hk9 : k_foresee al x y = 2 := by unfold k_foresee; rw [if_neg (fun h => h c12), if_pos c28]
      exact ze_i S hW hr hlk () (congrArg (fun z => cM cy ad z ex) (by rw [hk9] <;> rfl)) (by rw [hk9, if_neg (by decide)]) (Nat.le_of_ble_eq_true rfl) (Nat.le_of_ble_eq_true rfl) dX4_foresee_36
  · have c12 := zb_f c12
    refine lv_aload_n hx hb dX4_foresee_15 rfl (lv_at hl 0 rfl) ?_
    refine lv_iconst (v := 1) hx hb dX4_foresee_16 (by decide) ?_
    refine z_cVi (As := [.int 1]) (rest := []) (k := 28) S hE hW (cX4_fail_ok l D n ad cy sa H.size hn al 0 ex 1) (cwV 1 hts gX4_foresee_X4_fail rfl rfl rfl (by decide +kernel) ⟨Nat.le_of_ble_eq_true rfl, Nat.le_of_ble_eq_true rfl⟩) (Nat.lt_of_lt_of_le (by decide) hn) cM_0 rfl rfl rfl hl.1 rfl (Nat.le_of_ble_eq_true rfl) dX4_foresee_17 ⟨Nat.le_of_ble_eq_true rfl, Nat.le_of_ble_eq_true rfl⟩ (fun r _ H locs hp hW => ?_)
    subst hp
    have hk9 : k_foresee al x y = 1 := by unfold k_foresee; rw [if_pos c12]
    exact ze_i S hW hr hlk () (congrArg (fun z => cM cy ad z ex) (by rw [hk9] <;> rfl)) (by rw [hk9, if_neg (by decide)]) (Nat.le_of_ble_eq_true rfl) (Nat.le_of_ble_eq_true rfl) dX4_foresee_20
