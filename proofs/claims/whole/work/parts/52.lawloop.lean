/-! The law's loop. -/
theorem z_l4 {L : Nat} (hL : L ≤ 2048) : (nI L - 4).toInt = (L : Int) - 4 := by
  rw [Int32.toInt_sub, nI_toInt (show L < 2 ^ 31 by omega), show (4 : Int32).toInt = 4 from rfl, Int.bmod_eq_of_le (by omega) (by omega)]
theorem z_31 (x : Int32) : ∃ q, q < 32 ∧ x &&& 31 = nI q := by
  refine ⟨x.toBitVec.toNat % 32, Nat.mod_lt _ (by decide), ?_⟩
  apply Int32.toBitVec_inj.mp
  rw [Int32.toBitVec_and]
  apply BitVec.eq_of_toNat_eq
  rw [BitVec.toNat_and, pk_tn (show x.toBitVec.toNat % 32 < 2 ^ 32 by omega)]
  exact Nat.and_two_pow_sub_one_eq_mod x.toBitVec.toNat 5
set_option maxHeartbeats 8000000 in
set_option maxRecDepth 100000 in
theorem law_loop (l : Launch) {p : Program} {e : Env} {s : State} {m : MethodId} {below : List Frame} {meth : Method} {c : Code} {D : va_G} {ad cy sa : Nat → Nat} {b L : Nat} {xs : Nat → Int32} (hfl : l.stackTraces = false) (hL2 : L ≤ 2048) (S : CallFix p m c cL_law 9 s #[Value.ref b] wsL_law RL) (hE : ZEnv D cy sa (fun q => s.heap.size ≤ q) s) (hX : va_X b L xs s s.heap) (hbl : b < s.heap.size) (hr : meth.sig.returnType = ret) (hlk : meth.locks = false) : ∀ (k t : Nat) (d0 : Drawn) (al : Nat → Nat → Int32) (th : Int32) (f : Nat → Int64) (N B h : Nat) (H : Heap) (locs : List Loc) (ls : Array Slot), t + k = 513 → s.drawn.sameBut d0 lw_cs → Inv al N B h → h ≤ 60 * t → WS D 36 ad (lwC cy ad al th f) (fun q => s.heap.size ≤ q) s.heap H locs → lv_has ls 9 [(4, .int (nI (4 * t))), (3, .ref (ad 35)), (2, .ref (ad 28)), (1, .ref (ad 0)), (0, .ref b)] → W p l e room_1 (s.setDrawn d0) m #[Value.ref b] below meth c H locs (100 + 8 * t) (400 + 100 * t) (lw_Z below #[Value.ref b] s) (F0 m 23 ls []) := by
  have hx := S.1
  have hb := S.2.1
  have hbA : ¬ (fun q : Nat => s.heap.size ≤ q) b := Nat.not_le.mpr hbl
  intro k
  induction k with
  | zero =>
    intro t d0 al th f N B h H locs ls htk hd0 I hh hW hl
    refine lv_iload hx hb dL_law_23 (lv_at hl 0 rfl) ?_
    refine lv_aload_n hx hb dL_law_25 rfl (lv_at hl 4 rfl) ?_
    refine va_slen hx hb (hX.moved (U := s.setDrawn d0) (Vm.Alike.refl s.vm)) hbl hbA hW.2.2 dL_law_26 ?_
    refine lv_iconst (v := 4) hx hb dL_law_27 (by decide) ?_
    refine lv_isub hx hb dL_law_28 ?_
    refine lv_icmp_gt (tgt := 1349) hx hb dL_law_29 (by decide) (fun _ => ?_) (fun hle => ?_)
    · refine lv_iconst (v := 1) hx hb dL_law_1349 (by decide) ?_
      refine va_forget (fun q hq => hW.2.2.2.2 q hq) ?_
      refine W.widen (k := 601024) (n := 7293034) (by omega) (by omega) ?_
      exact lw_ret hd0 hx hb hr hlk dL_law_1350
    · exfalso
      apply hle
      show nI L - 4 < nI (4 * t)
      rw [Int32.lt_iff_toInt_lt, z_l4 hL2, nI_toInt (by omega)]
      omega
  | succ k ih =>
    intro t d0 al th f N B h H locs ls htk hd0 I hh hW hl
    refine lv_iload hx hb dL_law_23 (lv_at hl 0 rfl) ?_
    refine lv_aload_n hx hb dL_law_25 rfl (lv_at hl 4 rfl) ?_
    refine va_slen hx hb (hX.moved (U := s.setDrawn d0) (Vm.Alike.refl s.vm)) hbl hbA hW.2.2 dL_law_26 ?_
    refine lv_iconst (v := 4) hx hb dL_law_27 (by decide) ?_
    refine lv_isub hx hb dL_law_28 ?_
    refine lv_icmp_gt (tgt := 1349) hx hb dL_law_29 (by decide) (fun _ => ?_) (fun hle => ?_)
    · refine lv_iconst (v := 1) hx hb dL_law_1349 (by decide) ?_
      refine va_forget (fun q hq => hW.2.2.2.2 q hq) ?_
      refine W.widen (k := 601024) (n := 7293034) (by omega) (by omega) ?_
      exact lw_ret hd0 hx hb hr hlk dL_law_1350
    · have hi : 4 * t + 4 ≤ L := by
        have h9 : ¬ nI L - 4 < nI (4 * t) := hle
        rw [Int32.lt_iff_toInt_lt, z_l4 hL2, nI_toInt (by omega)] at h9
        omega
      have S1 : CallFix p m c cL_law 9 (s.setDrawn d0) #[Value.ref b] wsL_law RL := ⟨S.1, S.2.1, S.2.2.1, S.2.2.2.1, dr_words S.2.2.2.2 d0⟩
      have hE1 := hE.drawn d0
      have hX1 : va_X b L xs (s.setDrawn d0) (s.setDrawn d0).heap := hX.moved (Vm.Alike.refl s.vm)
      have hcl : 100 + 8 * t + 8 ≤ 601024 := by omega
      have hsl : 400 + 100 * t + 100 ≤ 7293034 := by omega
      have hh2 : h < 2 ^ 19 := by omega
      have hstep : ∀ (al2 : Nat → Nat → Int32) (th2 : Int32) (f2 : Nat → Int64) (N2 B2 h2 : Nat) (H : Heap) (locs : List Loc) (ls : Array Slot) (d : Drawn), s.drawn.sameBut d lw_cs → Inv al2 N2 B2 h2 → h2 ≤ h + 60 → WS D 36 ad (lwC cy ad al2 th2 f2) (fun q => s.heap.size ≤ q) s.heap H locs → lv_has ls 9 [(4, .int (nI (4 * t))), (3, .ref (ad 35)), (2, .ref (ad 28)), (1, .ref (ad 0)), (0, .ref b)] → W p l e room_1 (s.setDrawn d) m #[Value.ref b] below meth c H locs (100 + 8 * t + 8) (400 + 100 * t + 100) (lw_Z below #[Value.ref b] s) (F0 m 1343 ls []) := by
        intro al2 th2 f2 N2 B2 h2 H locs ls d hd I2 hh9 hW2 hl2
        refine lv_iinc (v := nI (4 * (t + 1))) (lv' := [(4, .int (nI (4 * (t + 1)))), (3, .ref (ad 35)), (2, .ref (ad 28)), (1, .ref (ad 0)), (0, .ref b)]) hx hb dL_law_1343 hl2 (k := 0) rfl (nI_add (4 * t) 4) (by decide) rfl (fun ls hl => ?_)
        refine lv_goto (tgt := 23) hx hb dL_law_1346 (by decide) ?_
        refine W.widen (k := 100 + 8 * (t + 1)) (n := 400 + 100 * (t + 1)) (by omega) (by omega) ?_
        exact ih (t + 1) d al2 th2 f2 N2 B2 h2 H locs ls (by omega) hd I2 (by omega) hW2 hl
      refine lv_aload_n hx hb dL_law_32 rfl (lv_at hl 4 rfl) ?_
      refine lv_iload hx hb dL_law_33 (lv_at hl 0 rfl) ?_
      refine z_sld (s := s.setDrawn d0) S1 hX1 hbl hbA hW (4 * t) rfl (by omega) hL2 dL_law_35 ?_
      refine lv_bipush (v := 31) hx hb dL_law_36 (by decide) ?_
      refine lv_iand hx hb dL_law_38 ?_
      obtain ⟨q, hq, e9⟩ := z_31 (xs (4 * t))
      refine z_top2 (y := nI q) e9 ?_
      rcases (show q = 0 ∨ q = 1 ∨ q = 2 ∨ q = 3 ∨ q = 4 ∨ q = 5 ∨ q = 6 ∨ q = 7 ∨ q = 8 ∨ q = 9 ∨ q = 10 ∨ q = 11 ∨ q = 12 ∨ q = 13 ∨ q = 14 ∨ q = 15 ∨ q = 16 ∨ q = 17 ∨ q = 18 ∨ q = 19 ∨ q = 20 ∨ q = 21 ∨ q = 22 ∨ q = 23 ∨ q = 24 ∨ q = 25 ∨ q = 26 ∨ q = 27 ∨ q = 28 ∨ q = 29 ∨ q = 30 ∨ q = 31 by omega) with rfl | rfl | rfl | rfl | rfl | rfl | rfl | rfl | rfl | rfl | rfl | rfl | rfl | rfl | rfl | rfl | rfl | rfl | rfl | rfl | rfl | rfl | rfl | rfl | rfl | rfl | rfl | rfl | rfl | rfl | rfl | rfl
      · refine lv_tableIn (off := 93) (tgt := 132) hx hb dL_law_39 (by decide) (by decide) rfl (by decide) ?_
        exact lc_set l (s := s.setDrawn d0) (i := 4 * t) hfl S1 hE1 hX1 hbl hbA hL2 hi I hh2 hcl hsl hW hl (fun al2 th2 f2 N2 B2 h2 H locs ls I2 hh9 hW2 hl2 => hstep al2 th2 f2 N2 B2 h2 H locs ls d0 hd0 I2 hh9 hW2 hl2)
      · refine lv_tableIn (off := 173) (tgt := 212) hx hb dL_law_39 (by decide) (by decide) rfl (by decide) ?_
        exact lc_setGust l (s := s.setDrawn d0) (i := 4 * t) hfl S1 hE1 hX1 hbl hbA hL2 hi I hh2 hcl hsl hW hl (fun al2 th2 f2 N2 B2 h2 H locs ls I2 hh9 hW2 hl2 => hstep al2 th2 f2 N2 B2 h2 H locs ls d0 hd0 I2 hh9 hW2 hl2)
      · refine lv_tableIn (off := 241) (tgt := 280) hx hb dL_law_39 (by decide) (by decide) rfl (by decide) ?_
        exact lc_build l (s := s.setDrawn d0) (i := 4 * t) hfl S1 hE1 hX1 hbl hbA hL2 hi I hh2 hcl hsl hW hl (fun al2 th2 f2 N2 B2 h2 H locs ls I2 hh9 hW2 hl2 => hstep al2 th2 f2 N2 B2 h2 H locs ls d0 hd0 I2 hh9 hW2 hl2)
      · refine lv_tableIn (off := 297) (tgt := 336) hx hb dL_law_39 (by decide) (by decide) rfl (by decide) ?_
        exact lc_fill l (s := s.setDrawn d0) (i := 4 * t) hfl S1 hE1 hX1 hbl hbA hL2 hi I hh2 hcl hsl hW hl (fun al2 th2 f2 N2 B2 h2 H locs ls I2 hh9 hW2 hl2 => hstep al2 th2 f2 N2 B2 h2 H locs ls d0 hd0 I2 hh9 hW2 hl2)
      · refine lv_tableIn (off := 365) (tgt := 404) hx hb dL_law_39 (by decide) (by decide) rfl (by decide) ?_
        exact lc_go l (s := s.setDrawn d0) (i := 4 * t) hfl S1 hE1 hX1 hbl hbA hL2 hi I hh2 hcl hsl hW hl (fun al2 th2 f2 N2 B2 h2 H locs ls I2 hh9 hW2 hl2 => hstep al2 th2 f2 N2 B2 h2 H locs ls d0 hd0 I2 hh9 hW2 hl2)
      · refine lv_tableIn (off := 421) (tgt := 460) hx hb dL_law_39 (by decide) (by decide) rfl (by decide) ?_
        exact lc_launch l (s := s.setDrawn d0) (i := 4 * t) hfl S1 hE1 hX1 hbl hbA hL2 hi I hh2 hcl hsl hW hl (fun al2 th2 f2 N2 B2 h2 H locs ls I2 hh9 hW2 hl2 => hstep al2 th2 f2 N2 B2 h2 H locs ls d0 hd0 I2 hh9 hW2 hl2)
      · refine lv_tableIn (off := 477) (tgt := 516) hx hb dL_law_39 (by decide) (by decide) rfl (by decide) ?_
        exact lc_stow l (s := s.setDrawn d0) (i := 4 * t) hfl S1 hE1 hX1 hbl hbA hL2 hi I hh2 hcl hsl hW hl (fun al2 th2 f2 N2 B2 h2 H locs ls I2 hh9 hW2 hl2 => hstep al2 th2 f2 N2 B2 h2 H locs ls d0 hd0 I2 hh9 hW2 hl2)
      · refine lv_tableIn (off := 573) (tgt := 612) hx hb dL_law_39 (by decide) (by decide) rfl (by decide) ?_
        exact lc_sail l (s := s.setDrawn d0) (i := 4 * t) hfl S1 hE1 hX1 hbl hbA hL2 hi I hh2 hcl hsl hW hl (fun al2 th2 f2 N2 B2 h2 H locs ls I2 hh9 hW2 hl2 => hstep al2 th2 f2 N2 B2 h2 H locs ls d0 hd0 I2 hh9 hW2 hl2)
      · refine lv_tableIn (off := 629) (tgt := 668) hx hb dL_law_39 (by decide) (by decide) rfl (by decide) ?_
        exact lc_layer l (s := s.setDrawn d0) (i := 4 * t) hfl S1 hE1 hX1 hbl hbA hL2 hi I hh2 hcl hsl hW hl (fun al2 th2 f2 N2 B2 h2 H locs ls I2 hh9 hW2 hl2 => hstep al2 th2 f2 N2 B2 h2 H locs ls d0 hd0 I2 hh9 hW2 hl2)
      · refine lv_tableIn (off := 697) (tgt := 736) hx hb dL_law_39 (by decide) (by decide) rfl (by decide) ?_
        exact lc_told l (s := s.setDrawn d0) (i := 4 * t) hfl S1 hE1 hX1 hbl hbA hL2 hi I hh2 hcl hsl hW hl (fun al2 th2 f2 N2 B2 h2 H locs ls I2 hh9 hW2 hl2 => hstep al2 th2 f2 N2 B2 h2 H locs ls d0 hd0 I2 hh9 hW2 hl2)
      · refine lv_tableIn (off := 765) (tgt := 804) hx hb dL_law_39 (by decide) (by decide) rfl (by decide) ?_
        exact lc_boat l (s := s.setDrawn d0) (i := 4 * t) hfl S1 hE1 hX1 hbl hbA hL2 hi I hh2 hcl hsl hW hl (fun al2 th2 f2 N2 B2 h2 H locs ls I2 hh9 hW2 hl2 => hstep al2 th2 f2 N2 B2 h2 H locs ls d0 hd0 I2 hh9 hW2 hl2)
      · refine lv_tableIn (off := 833) (tgt := 872) hx hb dL_law_39 (by decide) (by decide) rfl (by decide) ?_
        exact lc_beach l (s := s.setDrawn d0) (i := 4 * t) hfl S1 hE1 hX1 hbl hbA hL2 hi I hh2 hcl hsl hW hl (fun al2 th2 f2 N2 B2 h2 H locs ls I2 hh9 hW2 hl2 => hstep al2 th2 f2 N2 B2 h2 H locs ls d0 hd0 I2 hh9 hW2 hl2)
      · refine lv_tableIn (off := 889) (tgt := 928) hx hb dL_law_39 (by decide) (by decide) rfl (by decide) ?_
        exact lc_count l (s := s.setDrawn d0) (i := 4 * t) hfl S1 hE1 hX1 hbl hbA hL2 hi I hh2 hcl hsl hW hl (fun al2 th2 f2 N2 B2 h2 H locs ls I2 hh9 hW2 hl2 => hstep al2 th2 f2 N2 B2 h2 H locs ls d0 hd0 I2 hh9 hW2 hl2)
      · refine lv_tableIn (off := 945) (tgt := 984) hx hb dL_law_39 (by decide) (by decide) rfl (by decide) ?_
        exact lc_pass l (s := s.setDrawn d0) (i := 4 * t) hfl S1 hE1 hX1 hbl hbA hL2 hi I hh2 hcl hsl hW hl (fun al2 th2 f2 N2 B2 h2 H locs ls I2 hh9 hW2 hl2 => hstep al2 th2 f2 N2 B2 h2 H locs ls d0 hd0 I2 hh9 hW2 hl2)
      · refine lv_tableIn (off := 1001) (tgt := 1040) hx hb dL_law_39 (by decide) (by decide) rfl (by decide) ?_
        exact lc_back l (s := s.setDrawn d0) (i := 4 * t) hfl S1 hE1 hX1 hbl hbA hL2 hi I hh2 hcl hsl hW hl (fun al2 th2 f2 N2 B2 h2 H locs ls I2 hh9 hW2 hl2 => hstep al2 th2 f2 N2 B2 h2 H locs ls d0 hd0 I2 hh9 hW2 hl2)
      · refine lv_tableIn (off := 1057) (tgt := 1096) hx hb dL_law_39 (by decide) (by decide) rfl (by decide) ?_
        exact lc_arrives l (s := s.setDrawn d0) (i := 4 * t) hfl S1 hE1 hX1 hbl hbA hL2 hi I hh2 hcl hsl hW hl (fun al2 th2 f2 N2 B2 h2 H locs ls I2 hh9 hW2 hl2 => hstep al2 th2 f2 N2 B2 h2 H locs ls d0 hd0 I2 hh9 hW2 hl2)
      · refine lv_tableIn (off := 1113) (tgt := 1152) hx hb dL_law_39 (by decide) (by decide) rfl (by decide) ?_
        exact lc_advise l (s := s.setDrawn d0) (i := 4 * t) hfl S1 hE1 hX1 hbl hbA hL2 hi I hh2 hcl hsl hW hl (fun al2 th2 f2 N2 B2 h2 H locs ls I2 hh9 hW2 hl2 => hstep al2 th2 f2 N2 B2 h2 H locs ls d0 hd0 I2 hh9 hW2 hl2)
      · refine lv_tableIn (off := 1181) (tgt := 1220) hx hb dL_law_39 (by decide) (by decide) rfl (by decide) ?_
        exact lc_foresee l (s := s.setDrawn d0) (i := 4 * t) hfl S1 hE1 hX1 hbl hbA hL2 hi I hh2 hcl hsl hW hl (fun al2 th2 f2 N2 B2 h2 H locs ls I2 hh9 hW2 hl2 => hstep al2 th2 f2 N2 B2 h2 H locs ls d0 hd0 I2 hh9 hW2 hl2)
      · refine lv_tableIn (off := 1249) (tgt := 1288) hx hb dL_law_39 (by decide) (by decide) rfl (by decide) ?_
        exact lc_mean l (s := s.setDrawn d0) (i := 4 * t) hfl S1 hE1 hX1 hbl hbA hL2 hi I hh2 hcl hsl hW hl (fun al2 th2 f2 N2 B2 h2 H locs ls d2 hd2 I2 hh9 hW2 hl2 => hstep al2 th2 f2 N2 B2 h2 H locs ls d2 (hd0.trans hd2) I2 hh9 hW2 hl2)
      · refine lv_tableIn (off := 1290) (tgt := 1329) hx hb dL_law_39 (by decide) (by decide) rfl (by decide) ?_
        exact lc_digest l (s := s.setDrawn d0) (i := 4 * t) hfl S1 hE1 hX1 hbl hbA hL2 hi I hh2 hcl hsl hW hl (fun al2 th2 f2 N2 B2 h2 H locs ls I2 hh9 hW2 hl2 => hstep al2 th2 f2 N2 B2 h2 H locs ls d0 hd0 I2 hh9 hW2 hl2)
      · refine lv_tableOut (tgt := 1343) hx hb dL_law_39 (by decide) (by decide) ?_
        refine W.widen (k := 100 + 8 * t + 8) (n := 400 + 100 * t + 100) (by omega) (by omega) ?_
        exact hstep al th f N B h H locs ls d0 hd0 I (by omega) hW hl
      · refine lv_tableOut (tgt := 1343) hx hb dL_law_39 (by decide) (by decide) ?_
        refine W.widen (k := 100 + 8 * t + 8) (n := 400 + 100 * t + 100) (by omega) (by omega) ?_
        exact hstep al th f N B h H locs ls d0 hd0 I (by omega) hW hl
      · refine lv_tableOut (tgt := 1343) hx hb dL_law_39 (by decide) (by decide) ?_
        refine W.widen (k := 100 + 8 * t + 8) (n := 400 + 100 * t + 100) (by omega) (by omega) ?_
        exact hstep al th f N B h H locs ls d0 hd0 I (by omega) hW hl
      · refine lv_tableOut (tgt := 1343) hx hb dL_law_39 (by decide) (by decide) ?_
        refine W.widen (k := 100 + 8 * t + 8) (n := 400 + 100 * t + 100) (by omega) (by omega) ?_
        exact hstep al th f N B h H locs ls d0 hd0 I (by omega) hW hl
      · refine lv_tableOut (tgt := 1343) hx hb dL_law_39 (by decide) (by decide) ?_
        refine W.widen (k := 100 + 8 * t + 8) (n := 400 + 100 * t + 100) (by omega) (by omega) ?_
        exact hstep al th f N B h H locs ls d0 hd0 I (by omega) hW hl
      · refine lv_tableOut (tgt := 1343) hx hb dL_law_39 (by decide) (by decide) ?_
        refine W.widen (k := 100 + 8 * t + 8) (n := 400 + 100 * t + 100) (by omega) (by omega) ?_
        exact hstep al th f N B h H locs ls d0 hd0 I (by omega) hW hl
      · refine lv_tableOut (tgt := 1343) hx hb dL_law_39 (by decide) (by decide) ?_
        refine W.widen (k := 100 + 8 * t + 8) (n := 400 + 100 * t + 100) (by omega) (by omega) ?_
        exact hstep al th f N B h H locs ls d0 hd0 I (by omega) hW hl
      · refine lv_tableOut (tgt := 1343) hx hb dL_law_39 (by decide) (by decide) ?_
        refine W.widen (k := 100 + 8 * t + 8) (n := 400 + 100 * t + 100) (by omega) (by omega) ?_
        exact hstep al th f N B h H locs ls d0 hd0 I (by omega) hW hl
      · refine lv_tableOut (tgt := 1343) hx hb dL_law_39 (by decide) (by decide) ?_
        refine W.widen (k := 100 + 8 * t + 8) (n := 400 + 100 * t + 100) (by omega) (by omega) ?_
        exact hstep al th f N B h H locs ls d0 hd0 I (by omega) hW hl
      · refine lv_tableOut (tgt := 1343) hx hb dL_law_39 (by decide) (by decide) ?_
        refine W.widen (k := 100 + 8 * t + 8) (n := 400 + 100 * t + 100) (by omega) (by omega) ?_
        exact hstep al th f N B h H locs ls d0 hd0 I (by omega) hW hl
      · refine lv_tableOut (tgt := 1343) hx hb dL_law_39 (by decide) (by decide) ?_
        refine W.widen (k := 100 + 8 * t + 8) (n := 400 + 100 * t + 100) (by omega) (by omega) ?_
        exact hstep al th f N B h H locs ls d0 hd0 I (by omega) hW hl
      · refine lv_tableOut (tgt := 1343) hx hb dL_law_39 (by decide) (by decide) ?_
        refine W.widen (k := 100 + 8 * t + 8) (n := 400 + 100 * t + 100) (by omega) (by omega) ?_
        exact hstep al th f N B h H locs ls d0 hd0 I (by omega) hW hl
