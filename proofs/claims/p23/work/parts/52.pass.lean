/-! An hour of the law's slope. -/
theorem zup_zup {al : Nat → Nat → Int32} {k f : Nat} {v w : Int32} : zup (zup al k f v) k f w = zup al k f w := by
  funext a
  by_cases h : a = k
  · subst h
    rw [zup_k, zup_k, zup_k]
    funext j
    by_cases e : j = f
    · subst e; rw [up_s, up_s]
    · rw [up_n e, up_n e, up_n e]
  · rw [zup_o h, zup_o h, zup_o h]
theorem zset_same {al : Nat → Nat → Int32} {k : Nat} : zset al k (al k) = al := by
  funext a
  by_cases h : a = k
  · subst h; rw [zset_k]
  · rw [zset_o h]
theorem kpF_le {f : Nat → Int32} {a k : Nat} {v : Int32} (h : k ≤ a) : kpF f a k v = f := if_pos h
theorem keep_le {al : Nat → Nat → Int32} {i a k : Nat} {v w : Int32} (h : k ≤ a) : zup (zset al (17 + i) (kpF (al (17 + i)) a k v)) (10 + i) 2 w = zup al (10 + i) 2 w := by rw [kpF_le h, zset_same]
/-- a gust that takes a sack, as the law asks and as the class does -/
theorem fall_same : ∀ a : Fin 9, ∀ g : Fin 10, (¬ nI a.val ≤ 0 ∧ ¬ nI g.val ≤ 4 + 2 * nI a.val) ↔ (¬ nI a.val ≤ 0 ∧ ¬ nI g.val - 4 ≤ nI a.val + nI a.val) := by decide +kernel
theorem fall_eq {a g : Nat} (ha : a ≤ 8) (hg : g ≤ 9) : (¬ nI a ≤ 0 ∧ ¬ nI g ≤ 4 + 2 * nI a) ↔ (¬ nI a ≤ 0 ∧ ¬ nI g - 4 ≤ nI a + nI a) := fall_same ⟨a, by omega⟩ ⟨g, by omega⟩
section TV
variable {T : Nat → Nat → Int32} {j a g : Nat}
def fsN (a g : Nat) : Nat := if ¬ nI a ≤ 0 ∧ ¬ nI g - 4 ≤ nI a + nI a then a - 1 else a
theorem slide_y (ha : T (10 + j) 2 = nI a) (ha8 : a ≤ 8) (hg : g ≤ 9) (h0 : ¬ nI a ≤ 0) (hf : ¬ nI g - 4 ≤ nI a + nI a) : slideS T j 0 (nI g) = zup (zup (zup T (10 + j) 2 (nI (a - 1))) (6 + 0) 1 (T (6 + 0) 1 + 1)) (10 + j) 3 (zmx 0 (T (10 + j) 3 - (4 - nI (a - 1) / 3 + nI g / 2))) := by
  unfold slideS
  rw [ha, if_pos ((fall_eq ha8 hg).mpr ⟨h0, hf⟩)]
  have e : nI a - 1 = nI (a - 1) := (z_pred rfl ha8 h0).1
  rw [e]
theorem slide_n (ha : T (10 + j) 2 = nI a) (ha8 : a ≤ 8) (hg : g ≤ 9) (h : ¬ (¬ nI a ≤ 0 ∧ ¬ nI g - 4 ≤ nI a + nI a)) : slideS T j 0 (nI g) = zup T (10 + j) 3 (zmx 0 (T (10 + j) 3 - (4 - nI a / 3 + nI g / 2))) := by
  unfold slideS
  rw [ha, if_neg (fun q => h ((fall_eq ha8 hg).mp q))]
theorem zmx_pos {x : Int32} (h : ¬ x ≤ 0) : zmx 0 x = x := if_pos (Int32.not_le.mp h)
theorem zmx_neg {x : Int32} (h : x ≤ 0) : zmx 0 x = 0 := if_neg (Int32.not_lt.mpr h)
theorem trv_stay {Y : Nat → Nat → Int32} {x : Int32} (hw : T (10 + j) 4 = 1) (hs : slideS T j 0 (nI g) = zup Y (10 + j) 3 (zmx 0 x)) (hx : ¬ x ≤ 0) : zup Y (10 + j) 3 x = travelS T j 0 (nI g) := by
  unfold travelS comeDownS
  rw [if_pos hw, hs, zmx_pos hx]
  have e : (zup Y (10 + j) 3 x) (10 + j) 3 = x := (congrFun zup_k 3).trans up_s
  rw [if_neg]
  rw [e]
  intro q
  rw [q] at hx
  exact hx (Int32.le_refl 0)
theorem trv_land {Y : Nat → Nat → Int32} {b : Nat} {x : Int32} (hw : T (10 + j) 4 = 1) (hs : slideS T j 0 (nI g) = zup Y (10 + j) 3 (zmx 0 x)) (hx : x ≤ 0) (hb : Y (10 + j) 2 = nI b) (hb8 : b ≤ 8) : zup (zup (unlS (zup Y (10 + j) 3 0) j 0 b) (10 + j) 2 (nI 0)) (10 + j) 4 2 = travelS T j 0 (nI g) := by
  unfold travelS comeDownS
  rw [if_pos hw, hs, zmx_neg hx, if_pos ((congrFun zup_k 3).trans up_s)]
  unfold unloadS
  have e : (zup Y (10 + j) 3 0) (10 + j) 2 = nI b := ((congrFun zup_k 2).trans (up_n (by decide))).trans hb
  rw [e, nI_clamp (show b < 2 ^ 31 by omega)]
  rfl
theorem trv_up (hw : T (10 + j) 4 = 2) (h1 : ¬ 20 ≤ T (10 + j) 3 + 5) : zup T (10 + j) 3 (T (10 + j) 3 + 5) = travelS T j 0 (nI g) := by
  unfold travelS climbS
  have e : zmn 20 (T (10 + j) 3 + 5) = T (10 + j) 3 + 5 := if_pos (Int32.not_le.mp h1)
  rw [if_neg (by rw [hw]; decide), if_pos hw, e, if_neg]
  intro q
  rw [q] at h1
  exact h1 (Int32.le_refl 20)
theorem trv_top (hw : T (10 + j) 4 = 2) (h1 : 20 ≤ T (10 + j) 3 + 5) : zup (zup (zup T (10 + j) 3 (T (10 + j) 3 + 5)) (10 + j) 3 20) (10 + j) 4 0 = travelS T j 0 (nI g) := by
  unfold travelS climbS
  have e : zmn 20 (T (10 + j) 3 + 5) = 20 := if_neg (Int32.not_lt.mpr h1)
  rw [if_neg (by rw [hw]; decide), if_pos hw, e, if_pos rfl, zup_zup]
theorem trv_no (h1 : ¬ T (10 + j) 4 = 1) (h2 : ¬ T (10 + j) 4 = 2) : T = travelS T j 0 (nI g) := by
  unfold travelS
  rw [if_neg h1, if_neg h2]
end TV

theorem z_dec {a : Nat} (h : 0 < a) : nI a + (-1) = nI (a - 1) := by
  obtain ⟨b, rfl⟩ : ∃ b, a = b + 1 := ⟨a - 1, by omega⟩
  rw [← Int32.sub_eq_add_neg]
  exact nI_pred b

set_option maxHeartbeats 4000000 in
set_option maxRecDepth 100000 in
theorem cX4_pass_ok (l : Launch) (D : va_G) (n : Nat) (ad cy sa : Nat → Nat) (sz N B : Nat) (hn : 35 + 2 * N + B ≤ n) (hN6 : N ≤ 6) (hB4 : B ≤ 4) (al be : Nat → Nat → Int32) (ex : Nat → va_E) (h : Nat) (hN : be 0 4 = nI N) (hh : be 0 8 = nI h) (hh3 : h < 2 ^ 29) (hab : abOK be) (hgu : ∀ j, j < 8 → ∃ g, be 3 j = nI g ∧ g ≤ 9) : Met l yX4_pass wsX4_pass ({ frames := 1, cells := 12, slots := 96, locals := 24 }) (PW D n ad cy sa sz (sW cy ad N B al be ex) [.ref (ad 28)]) (QGi D n ad sz (fun r (u : Nat → Nat) => r = ash (hourS be) - ash be ∧ ∀ k, (∀ i, i < N → k ≠ 36 + 2 * i) → u k = ad k) (fun u => wL n u (sW cy u N B al (hourS be) ex))) 12 96 (Acc n ad sz) := by
  refine zs_met (cc := cX4_pass) (maxL := 12) (ret := (some .int)) (own := RX4) (by decide) rfl rfl (Nat.le_of_ble_eq_true rfl) ?_
  intro p e s m args below meth c ls S hE hW hr hlk hsz hav hl
  subst hsz
  have hx := S.1
  have hb := S.2.1
  have hown := S.2.2.2.1
  have hts := S.2.2.2.2
  have hl : lv_has ls 12 [(0, .ref (ad 28))] := hl
  obtain ⟨g, hg, hg9⟩ := hgu (h % 8) (Nat.mod_lt _ (by decide))
  have f16 := hts (.fieldLink RX4 16 "PumiceSledgeLaw$Sim" "gusts" "[I") (by decide +kernel)
  have hi4 : ∀ w ∈ wsX40, w ∈ wsX4_pass := by decide +kernel
  have f42 := hts (.fieldLink RX4 42 "PumiceSledgeLaw$Sim" "hour" "I") (by decide +kernel)
  have f21 := hts (.fieldLink RX4 21 "PumiceSledgeLaw$Sim" "sledges" "[LPumiceSledgeLaw$Sledge;") (by decide +kernel)
  have f56 := hts (.fieldLink RX4 56 "PumiceSledgeLaw$Sledge" "way" "I") (by decide +kernel)
  have hi5 : ∀ w ∈ wsX50, w ∈ wsX4_pass := by decide +kernel
  have f63 := hts (.fieldLink RX4 63 "PumiceSledgeLaw$Sledge" "height" "I") (by decide +kernel)
  have f49 := hts (.fieldLink RX4 49 "PumiceSledgeLaw$Sledge" "sacks" "[I") (by decide +kernel)
  have f30 := hts (.fieldLink RX4 30 "PumiceSledgeLaw$Sim" "beach" "[I") (by decide +kernel)
  have in_L := hts (.initialized RL) (by decide +kernel)
  have stt_L_kind := hts (.static yL_kind) (by decide +kernel)
  have f46 := hts (.fieldLink RX4 46 "PumiceSledgeLaw$Sim" "fell" "I") (by decide +kernel)
  refine lv_aload_n hx hb dX4_pass_0 rfl (lv_at hl 0 rfl) ?_
  refine z_get (C := RX4) (T := TX4) (N := 9) (ci := 4) S hE hW hi4 rfl (by omega) sW_28 2 (by decide) rfl f16 (v := .ref (ad 31)) rfl dX4_pass_1 ?_
  refine lv_aload_n hx hb dX4_pass_4 rfl (lv_at hl 0 rfl) ?_
  refine z_get (C := RX4) (T := TX4) (N := 9) (ci := 4) S hE hW hi4 rfl (by omega) sW_28 6 (by decide) rfl f42 (v := .int (nI h)) (congrArg (fun z => some (Value.int z)) (hh)) dX4_pass_5 ?_
  refine lv_bipush (v := 8) hx hb dX4_pass_8 (by decide) ?_
  refine lv_irem hx hb dX4_pass_10 (by decide) ?_
  refine z_top2 (y := nI (h % 8)) (pk_rem (by omega) (by decide) (by decide)) ?_
  refine z_ald S hE hW (by omega) sW_31 (h % 8) rfl (by first | omega | exact blN_lt (by omega) (by omega)) (by decide) (v := nI g) (hg) dX4_pass_11 ?_
  refine lv_istore_n (lv' := [(1, .int (nI g)), (0, .ref (ad 28))]) hx hb dX4_pass_12 rfl hl (by decide) rfl (fun ls hl => ?_)
  refine lv_aload_n hx hb dX4_pass_13 rfl (lv_at hl 1 rfl) ?_
  refine z_cVi (As := []) (rest := []) (k := 28) S hE hW (cX4_ashore_ok l D n ad cy sa s.heap.size N B (by omega) (by omega) (by omega) al be ex ) (cwV 0 hts gX4_pass_X4_ashore rfl rfl rfl (by decide +kernel) ⟨Nat.le_of_ble_eq_true rfl, Nat.le_of_ble_eq_true rfl⟩) (by omega) sW_28 rfl rfl rfl hl.1 rfl (Nat.le_of_ble_eq_true rfl) dX4_pass_14 ⟨(by dsimp only; omega), (by dsimp only; omega)⟩ (fun r _ H locs hp hW => ?_)
  subst hp
  refine lv_istore_n (lv' := [(2, .int ((be (8 + 0) 0 + be (8 + 0) 1) + be (8 + 0) 2)), (1, .int (nI g)), (0, .ref (ad 28))]) hx hb dX4_pass_17 rfl hl (by decide) rfl (fun ls hl => ?_)
  refine lv_aload_n hx hb dX4_pass_18 rfl (lv_at hl 2 rfl) ?_
  refine z_get (C := RX4) (T := TX4) (N := 9) (ci := 4) S hE hW hi4 rfl (by omega) sW_28 3 (by decide) rfl f21 (v := .ref (ad 33)) rfl dX4_pass_19 ?_
  refine lv_astore_n (lv' := [(3, .ref (ad 33)), (2, .int ((be (8 + 0) 0 + be (8 + 0) 1) + be (8 + 0) 2)), (1, .int (nI g)), (0, .ref (ad 28))]) hx hb dX4_pass_22 rfl hl (by decide) rfl (fun ls hl => ?_)
  refine lv_aload_n hx hb dX4_pass_23 rfl (lv_at hl 0 rfl) ?_
  refine z_alenG (t0 := 4) S hE hW (by omega) sW_33 rfl (v := nI N) rfl dX4_pass_24 ?_
  refine lv_istore (lv' := [(4, .int (nI N)), (3, .ref (ad 33)), (2, .int ((be (8 + 0) 0 + be (8 + 0) 1) + be (8 + 0) 2)), (1, .int (nI g)), (0, .ref (ad 28))]) hx hb dX4_pass_25 hl (by decide) rfl (fun ls hl => ?_)
  refine lv_iconst (v := 0) hx hb dX4_pass_27 (by decide) ?_
  refine lv_istore (lv' := [(5, .int 0), (4, .int (nI N)), (3, .ref (ad 33)), (2, .int ((be (8 + 0) 0 + be (8 + 0) 1) + be (8 + 0) 2)), (1, .int (nI g)), (0, .ref (ad 28))]) hx hb dX4_pass_28 hl (by decide) rfl (fun ls hl => ?_)
  have L30 : ∀ (kq j : Nat) (ad1 : Nat → Nat) (H : Heap) (locs : List Loc) (ls : Array Slot), j + kq = N → (∀ k, (∀ i, i < N → k ≠ 36 + 2 * i) → ad1 k = ad k) → WS D n ad1 (sW cy ad1 N B al (travN be 0 (nI g) j) ex) (Acc n ad s.heap.size) s.heap H locs → lv_has ls 12 [(5, .int (nI j)), (4, .int (nI N)), (3, .ref (ad1 33)), (2, .int ((be (8 + 0) 0 + be (8 + 0) 1) + be (8 + 0) 2)), (1, .int (nI g)), (0, .ref (ad1 28))] → W p l e ({ frames := 1, cells := 12, slots := 96, locals := 24 }) s m args below meth c H locs (2 * j) (16 * j) (MQ below (QGi D n ad s.heap.size (fun r (u : Nat → Nat) => r = ash (hourS be) - ash be ∧ ∀ k, (∀ i, i < N → k ≠ 36 + 2 * i) → u k = ad k) (fun u => wL n u (sW cy u N B al (hourS be) ex))) args s 12 96 (Acc n ad s.heap.size)) (F0 m 30 ls []) := by
    intro kq
    induction kq with
    | zero =>
      intro j ad1 H locs ls hjk had1 hW hl
      have hjN : j = N := by omega
      try rw [hjN] at hW
      try rw [hjN] at hl
      refine lv_iload hx hb dX4_pass_30 (lv_at hl 0 rfl) ?_
      refine lv_iload hx hb dX4_pass_32 (lv_at hl 1 rfl) ?_
      refine lv_icmp_ge (tgt := 251) hx hb dX4_pass_34 (by decide) (fun _ => ?_) (fun h => absurd (nI_le (Nat.le_refl N) (by omega)) h)
      refine lv_aload_n hx hb dX4_pass_251 rfl (lv_at hl 5 rfl) ?_
      refine lv_dup hx hb dX4_pass_252 rfl ?_
      refine z_get (C := RX4) (T := TX4) (N := 9) (ci := 4) S hE hW hi4 rfl (by omega) sW_28 6 (by decide) rfl f42 (v := .int (nI h)) (congrArg (fun z => some (Value.int z)) ((congrFun (travN_o (k := 0) (by omega) (by omega) N (fun q hq => by omega)) 8).trans hh)) dX4_pass_253 ?_
      refine lv_iconst (v := 1) hx hb dX4_pass_256 (by decide) ?_
      refine lv_iadd hx hb dX4_pass_257 ?_
      refine z_put (ce' := sW cy ad1 N B al (zup (travN be 0 (nI g) N) 0 8 (nI h + 1)) ex) (C := RX4) (T := TX4) (N := 9) (ci := 4) S hE hW hi4 tyX4 tyX4_ok nmX4 rfl (by omega) sW_28 6 (by decide) rfl f42 rfl rfl (Nat.le_of_ble_eq_true rfl) (pS_0 (by decide)) (fun j h => oS_0 h) dX4_pass_258 (fun H locs hW => ?_)
      refine lv_aload_n hx hb dX4_pass_261 rfl (lv_at hl 5 rfl) ?_
      refine z_cVi (As := []) (rest := []) (k := 28) S hE hW (cX4_ashore_ok l D n ad1 cy sa H.size N B (by omega) (by omega) (by omega) al (zup (travN be 0 (nI g) N) 0 8 (nI h + 1)) ex ) (cwV 0 hts gX4_pass_X4_ashore rfl rfl rfl (by decide +kernel) ⟨Nat.le_of_ble_eq_true rfl, Nat.le_of_ble_eq_true rfl⟩) (by omega) sW_28 rfl rfl rfl hl.1 rfl (Nat.le_of_ble_eq_true rfl) dX4_pass_262 ⟨(by dsimp only; omega), (by dsimp only; omega)⟩ (fun r _ H locs hp hW => ?_)
      subst hp
      refine lv_iload_n hx hb dX4_pass_265 rfl (lv_at hl 3 rfl) ?_
      refine lv_isub hx hb dX4_pass_266 ?_
      have eH : hourS be = (zup (travN be 0 (nI g) N) 0 8 (nI h + 1)) := by unfold hourS; rw [hh, ix_nI (show h < 2 ^ 31 by omega), hN, ix_nI (show N < 2 ^ 31 by omega), hg]
      exact zg_i S hW hr hlk ad1 (by rw [eH]) ⟨by rw [eH]; rfl, had1⟩ (by omega) (by omega) dX4_pass_267
    | succ kq ih =>
      intro j ad1 H locs ls hjk had1 hW hl
      have hj : j < N := by omega
      obtain ⟨a, ha, ha8⟩ := hab j (by omega)
      have hTa := travN_ab (g := nI g) ha j (Nat.le_refl j)
      generalize hT : travN be 0 (nI g) j = T at hW hTa
      refine lv_iload hx hb dX4_pass_30 (lv_at hl 0 rfl) ?_
      refine lv_iload hx hb dX4_pass_32 (lv_at hl 1 rfl) ?_
      refine lv_icmp_ge (tgt := 251) hx hb dX4_pass_34 (by decide) (fun h => absurd h (nI_ge hj (by omega))) (fun _ => ?_)
      refine lv_aload_n hx hb dX4_pass_37 rfl (lv_at hl 2 rfl) ?_
      refine lv_iload hx hb dX4_pass_38 (lv_at hl 0 rfl) ?_
      refine z_aldq (t0 := 4) (C := RX5) S hE hW (by omega) sW_33 rfl j rfl (by omega) (by omega) (v := .ref (ad1 (35 + 2 * j))) rfl dX4_pass_40 ?_
      refine lv_astore (lv' := [(6, .ref (ad1 (35 + 2 * j))), (5, .int (nI j)), (4, .int (nI N)), (3, .ref (ad1 33)), (2, .int ((be (8 + 0) 0 + be (8 + 0) 1) + be (8 + 0) 2)), (1, .int (nI g)), (0, .ref (ad1 28))]) hx hb dX4_pass_41 hl (by decide) rfl (fun ls hl => ?_)
      refine lv_aload hx hb dX4_pass_43 (lv_at hl 0 rfl) ?_
      refine z_get (C := RX5) (T := TX5) (N := 4) (ci := 5) S hE hW hi5 rfl (by omega) (sW_so (i := j) hj) 2 (by decide) rfl f56 (v := .int (T (10 + j) 4)) rfl dX4_pass_45 ?_
      refine lv_iconst (v := 1) hx hb dX4_pass_48 (by decide) ?_
      refine lv_icmp_ne (tgt := 199) hx hb dX4_pass_49 (by decide) (fun c49 => ?_) (fun c49 => ?_)
      · refine lv_aload hx hb dX4_pass_199 (lv_at hl 0 rfl) ?_
        refine z_get (C := RX5) (T := TX5) (N := 4) (ci := 5) S hE hW hi5 rfl (by omega) (sW_so (i := j) hj) 2 (by decide) rfl f56 (v := .int (T (10 + j) 4)) rfl dX4_pass_201 ?_
        refine lv_iconst (v := 2) hx hb dX4_pass_204 (by decide) ?_
        refine lv_icmp_ne (tgt := 245) hx hb dX4_pass_205 (by decide) (fun c205 => ?_) (fun c205 => ?_)
        · refine lv_iinc (v := nI (j + 1)) (lv' := [(5, .int (nI (j + 1))), (6, .ref (ad1 (35 + 2 * j))), (4, .int (nI N)), (3, .ref (ad1 33)), (2, .int ((be (8 + 0) 0 + be (8 + 0) 1) + be (8 + 0) 2)), (1, .int (nI g)), (0, .ref (ad1 28))]) hx hb dX4_pass_245 hl (k := 1) rfl (nI_1 _) (by decide) rfl (fun ls hl => ?_)
          refine lv_goto (tgt := 30) hx hb dX4_pass_248 (by decide) ?_
          rw [trv_no (T := T) (g := g) c49 c205, ← hT] at hW
          refine W.widen (k := 2 * (j + 1)) (n := 16 * (j + 1)) (by omega) (by omega) ?_
          exact ih (j + 1) ad1 H locs ls (by omega) (fun k hk => had1 k hk) hW (lv_sub hl [0, 2, 3, 4, 5, 6] rfl)
        · refine lv_aload hx hb dX4_pass_208 (lv_at hl 0 rfl) ?_
          refine lv_dup hx hb dX4_pass_210 rfl ?_
          refine z_get (C := RX5) (T := TX5) (N := 4) (ci := 5) S hE hW hi5 rfl (by omega) (sW_so (i := j) hj) 1 (by decide) rfl f63 (v := .int (T (10 + j) 3)) rfl dX4_pass_211 ?_
          refine lv_iconst (v := 5) hx hb dX4_pass_214 (by decide) ?_
          refine lv_iadd hx hb dX4_pass_215 ?_
          refine z_put (ce' := sW cy ad1 N B al (zup T (10 + j) 3 (T (10 + j) 3 + 5)) ex) (C := RX5) (T := TX5) (N := 4) (ci := 5) S hE hW hi5 tyX5 tyX5_ok nmX5 rfl (by omega) (sW_so (i := j) hj) 1 (by decide) rfl f63 rfl rfl (Nat.le_of_ble_eq_true rfl) (pS_s (i := j) hj (by decide)) (fun j h => oS_s (by omega) hN6 hB4 (by decide) h) dX4_pass_216 (fun H locs hW => ?_)
          refine lv_aload hx hb dX4_pass_219 (lv_at hl 0 rfl) ?_
          refine z_get (C := RX5) (T := TX5) (N := 4) (ci := 5) S hE hW hi5 rfl (by omega) (sW_so (i := j) hj) 1 (by decide) rfl f63 (v := .int (T (10 + j) 3 + 5)) (congrArg (fun z => some (Value.int z)) ((congrFun zup_k 3).trans up_s)) dX4_pass_221 ?_
          refine lv_bipush (v := 20) hx hb dX4_pass_224 (by decide) ?_
          refine lv_icmp_ge (tgt := 232) hx hb dX4_pass_226 (by decide) (fun c226 => ?_) (fun c226 => ?_)
          · refine lv_aload hx hb dX4_pass_232 (lv_at hl 0 rfl) ?_
            refine lv_bipush (v := 20) hx hb dX4_pass_234 (by decide) ?_
            refine z_put (ce' := sW cy ad1 N B al (zup (zup T (10 + j) 3 (T (10 + j) 3 + 5)) (10 + j) 3 20) ex) (C := RX5) (T := TX5) (N := 4) (ci := 5) S hE hW hi5 tyX5 tyX5_ok nmX5 rfl (by omega) (sW_so (i := j) hj) 1 (by decide) rfl f63 rfl rfl (Nat.le_of_ble_eq_true rfl) (pS_s (i := j) hj (by decide)) (fun j h => oS_s (by omega) hN6 hB4 (by decide) h) dX4_pass_236 (fun H locs hW => ?_)
            refine lv_aload hx hb dX4_pass_239 (lv_at hl 0 rfl) ?_
            refine lv_iconst (v := 0) hx hb dX4_pass_241 (by decide) ?_
            refine z_put (ce' := sW cy ad1 N B al (zup (zup (zup T (10 + j) 3 (T (10 + j) 3 + 5)) (10 + j) 3 20) (10 + j) 4 0) ex) (C := RX5) (T := TX5) (N := 4) (ci := 5) S hE hW hi5 tyX5 tyX5_ok nmX5 rfl (by omega) (sW_so (i := j) hj) 2 (by decide) rfl f56 rfl rfl (Nat.le_of_ble_eq_true rfl) (pS_s (i := j) hj (by decide)) (fun j h => oS_s (by omega) hN6 hB4 (by decide) h) dX4_pass_242 (fun H locs hW => ?_)
            refine lv_iinc (v := nI (j + 1)) (lv' := [(5, .int (nI (j + 1))), (6, .ref (ad1 (35 + 2 * j))), (4, .int (nI N)), (3, .ref (ad1 33)), (2, .int ((be (8 + 0) 0 + be (8 + 0) 1) + be (8 + 0) 2)), (1, .int (nI g)), (0, .ref (ad1 28))]) hx hb dX4_pass_245 hl (k := 1) rfl (nI_1 _) (by decide) rfl (fun ls hl => ?_)
            refine lv_goto (tgt := 30) hx hb dX4_pass_248 (by decide) ?_
            rw [trv_top (g := g) c205 c226, ← hT] at hW
            refine W.widen (k := 2 * (j + 1)) (n := 16 * (j + 1)) (by omega) (by omega) ?_
            exact ih (j + 1) ad1 H locs ls (by omega) (fun k hk => had1 k hk) hW (lv_sub hl [0, 2, 3, 4, 5, 6] rfl)
          · refine lv_goto (tgt := 245) hx hb dX4_pass_229 (by decide) ?_
            refine lv_iinc (v := nI (j + 1)) (lv' := [(5, .int (nI (j + 1))), (6, .ref (ad1 (35 + 2 * j))), (4, .int (nI N)), (3, .ref (ad1 33)), (2, .int ((be (8 + 0) 0 + be (8 + 0) 1) + be (8 + 0) 2)), (1, .int (nI g)), (0, .ref (ad1 28))]) hx hb dX4_pass_245 hl (k := 1) rfl (nI_1 _) (by decide) rfl (fun ls hl => ?_)
            refine lv_goto (tgt := 30) hx hb dX4_pass_248 (by decide) ?_
            rw [trv_up (g := g) c205 c226, ← hT] at hW
            refine W.widen (k := 2 * (j + 1)) (n := 16 * (j + 1)) (by omega) (by omega) ?_
            exact ih (j + 1) ad1 H locs ls (by omega) (fun k hk => had1 k hk) hW (lv_sub hl [0, 2, 3, 4, 5, 6] rfl)
      · refine lv_aload hx hb dX4_pass_52 (lv_at hl 0 rfl) ?_
        refine z_get (C := RX5) (T := TX5) (N := 4) (ci := 5) S hE hW hi5 rfl (by omega) (sW_so (i := j) hj) 3 (by decide) rfl f49 (v := .ref (ad1 (36 + 2 * j))) rfl dX4_pass_54 ?_
        refine z_alenG (t0 := 0) S hE hW (by omega) (sW_sal hj hTa (by omega)) rfl (v := nI a) rfl dX4_pass_57 ?_
        refine lv_istore (lv' := [(7, .int (nI a)), (6, .ref (ad1 (35 + 2 * j))), (5, .int (nI j)), (4, .int (nI N)), (3, .ref (ad1 33)), (2, .int ((be (8 + 0) 0 + be (8 + 0) 1) + be (8 + 0) 2)), (1, .int (nI g)), (0, .ref (ad1 28))]) hx hb dX4_pass_58 hl (by decide) rfl (fun ls hl => ?_)
        refine lv_iload hx hb dX4_pass_60 (lv_at hl 0 rfl) ?_
        refine lv_if_le (tgt := 97) hx hb dX4_pass_62 (by decide) (fun c62 => ?_) (fun c62 => ?_)
        · refine lv_aload hx hb dX4_pass_97 (lv_at hl 1 rfl) ?_
          refine lv_dup hx hb dX4_pass_99 rfl ?_
          refine z_get (C := RX5) (T := TX5) (N := 4) (ci := 5) S hE hW hi5 rfl (by omega) (sW_so (i := j) hj) 1 (by decide) rfl f63 (v := .int (T (10 + j) 3)) rfl dX4_pass_100 ?_
          refine lv_iconst (v := 4) hx hb dX4_pass_103 (by decide) ?_
          refine lv_iload hx hb dX4_pass_104 (lv_at hl 0 rfl) ?_
          refine lv_iconst (v := 3) hx hb dX4_pass_106 (by decide) ?_
          refine lv_idiv hx hb dX4_pass_107 (by decide) ?_
          refine lv_isub hx hb dX4_pass_108 ?_
          refine lv_iload_n hx hb dX4_pass_109 rfl (lv_at hl 6 rfl) ?_
          refine lv_iconst (v := 2) hx hb dX4_pass_110 (by decide) ?_
          refine lv_idiv hx hb dX4_pass_111 (by decide) ?_
          refine lv_iadd hx hb dX4_pass_112 ?_
          refine lv_isub hx hb dX4_pass_113 ?_
          refine z_put (ce' := sW cy ad1 N B al (zup T (10 + j) 3 (T (10 + j) 3 - ((4 - (nI a / 3)) + (nI g / 2)))) ex) (C := RX5) (T := TX5) (N := 4) (ci := 5) S hE hW hi5 tyX5 tyX5_ok nmX5 rfl (by omega) (sW_so (i := j) hj) 1 (by decide) rfl f63 rfl rfl (Nat.le_of_ble_eq_true rfl) (pS_s (i := j) hj (by decide)) (fun j h => oS_s (by omega) hN6 hB4 (by decide) h) dX4_pass_114 (fun H locs hW => ?_)
          refine lv_aload hx hb dX4_pass_117 (lv_at hl 1 rfl) ?_
          refine z_get (C := RX5) (T := TX5) (N := 4) (ci := 5) S hE hW hi5 rfl (by omega) (sW_so (i := j) hj) 1 (by decide) rfl f63 (v := .int (T (10 + j) 3 - ((4 - (nI a / 3)) + (nI g / 2)))) (congrArg (fun z => some (Value.int z)) ((congrFun zup_k 3).trans up_s)) dX4_pass_119 ?_
          refine lv_if_le (tgt := 128) hx hb dX4_pass_122 (by decide) (fun c122 => ?_) (fun c122 => ?_)
          · refine lv_aload hx hb dX4_pass_128 (lv_at hl 1 rfl) ?_
            refine lv_iconst (v := 0) hx hb dX4_pass_130 (by decide) ?_
            refine z_put (ce' := sW cy ad1 N B al (zup (zup T (10 + j) 3 (T (10 + j) 3 - ((4 - (nI a / 3)) + (nI g / 2)))) (10 + j) 3 0) ex) (C := RX5) (T := TX5) (N := 4) (ci := 5) S hE hW hi5 tyX5 tyX5_ok nmX5 rfl (by omega) (sW_so (i := j) hj) 1 (by decide) rfl f63 rfl rfl (Nat.le_of_ble_eq_true rfl) (pS_s (i := j) hj (by decide)) (fun j h => oS_s (by omega) hN6 hB4 (by decide) h) dX4_pass_131 (fun H locs hW => ?_)
            refine lv_aload hx hb dX4_pass_134 (lv_at hl 1 rfl) ?_
            refine z_get (C := RX5) (T := TX5) (N := 4) (ci := 5) S hE hW hi5 rfl (by omega) (sW_so (i := j) hj) 3 (by decide) rfl f49 (v := .ref (ad1 (36 + 2 * j))) rfl dX4_pass_136 ?_
            refine lv_astore (lv' := [(8, .ref (ad1 (36 + 2 * j))), (7, .int (nI a)), (6, .ref (ad1 (35 + 2 * j))), (5, .int (nI j)), (4, .int (nI N)), (3, .ref (ad1 33)), (2, .int ((be (8 + 0) 0 + be (8 + 0) 1) + be (8 + 0) 2)), (1, .int (nI g)), (0, .ref (ad1 28))]) hx hb dX4_pass_139 hl (by decide) rfl (fun ls hl => ?_)
            refine lv_aload hx hb dX4_pass_141 (lv_at hl 0 rfl) ?_
            refine z_alenG (t0 := 0) S hE hW (by omega) (sW_sal hj ((((congrFun zup_k 2).trans (up_n (by decide))).trans ((congrFun zup_k 2).trans (up_n (by decide)))).trans hTa) (by omega)) rfl (v := nI a) rfl dX4_pass_143 ?_
            refine lv_istore (lv' := [(9, .int (nI a)), (8, .ref (ad1 (36 + 2 * j))), (7, .int (nI a)), (6, .ref (ad1 (35 + 2 * j))), (5, .int (nI j)), (4, .int (nI N)), (3, .ref (ad1 33)), (2, .int ((be (8 + 0) 0 + be (8 + 0) 1) + be (8 + 0) 2)), (1, .int (nI g)), (0, .ref (ad1 28))]) hx hb dX4_pass_144 hl (by decide) rfl (fun ls hl => ?_)
            refine lv_iconst (v := 0) hx hb dX4_pass_146 (by decide) ?_
            refine lv_istore (lv' := [(10, .int 0), (9, .int (nI a)), (8, .ref (ad1 (36 + 2 * j))), (7, .int (nI a)), (6, .ref (ad1 (35 + 2 * j))), (5, .int (nI j)), (4, .int (nI N)), (3, .ref (ad1 33)), (2, .int ((be (8 + 0) 0 + be (8 + 0) 1) + be (8 + 0) 2)), (1, .int (nI g)), (0, .ref (ad1 28))]) hx hb dX4_pass_147 hl (by decide) rfl (fun ls hl => ?_)
            have hXb : ((zup (zup T (10 + j) 3 (T (10 + j) 3 - ((4 - (nI a / 3)) + (nI g / 2)))) (10 + j) 3 0)) (10 + j) 2 = nI a := ((((congrFun zup_k 2).trans (up_n (by decide))).trans ((congrFun zup_k 2).trans (up_n (by decide)))).trans hTa)
            generalize hX : (zup (zup T (10 + j) 3 (T (10 + j) 3 - ((4 - (nI a / 3)) + (nI g / 2)))) (10 + j) 3 0) = X at hW hXb
            have L149 : ∀ (kr q : Nat) (H : Heap) (locs : List Loc) (ls : Array Slot), q + kr = a → WS D n ad1 (sW cy ad1 N B al (unlS X j 0 q) ex) (Acc n ad s.heap.size) s.heap H locs → lv_has ls 12 [(10, .int (nI q)), (9, .int (nI a)), (8, .ref (ad1 (36 + 2 * j))), (6, .ref (ad1 (35 + 2 * j))), (5, .int (nI j)), (4, .int (nI N)), (3, .ref (ad1 33)), (2, .int ((be (8 + 0) 0 + be (8 + 0) 1) + be (8 + 0) 2)), (1, .int (nI g)), (0, .ref (ad1 28))] → W p l e ({ frames := 1, cells := 12, slots := 96, locals := 24 }) s m args below meth c H locs (2 * j) (16 * j) (MQ below (QGi D n ad s.heap.size (fun r (u : Nat → Nat) => r = ash (hourS be) - ash be ∧ ∀ k, (∀ i, i < N → k ≠ 36 + 2 * i) → u k = ad k) (fun u => wL n u (sW cy u N B al (hourS be) ex))) args s 12 96 (Acc n ad s.heap.size)) (F0 m 149 ls []) := by
              intro kr
              induction kr with
              | zero =>
                intro q H locs ls hjkq hW hl
                have hjNq : q = a := by omega
                try rw [hjNq] at hW
                try rw [hjNq] at hl
                refine lv_iload hx hb dX4_pass_149 (lv_at hl 0 rfl) ?_
                refine lv_iload hx hb dX4_pass_151 (lv_at hl 1 rfl) ?_
                refine lv_icmp_ge (tgt := 183) hx hb dX4_pass_153 (by decide) (fun _ => ?_) (fun h => absurd (nI_le (Nat.le_refl _) (by omega)) h)
                refine lv_aload hx hb dX4_pass_183 (lv_at hl 3 rfl) ?_
                refine lv_iconst (v := 0) hx hb dX4_pass_185 (by decide) ?_
                refine lv_iconst (v := 0) hx hb dX4_pass_186 (by decide) ?_
                refine z_gVv (As := [.int (nI 0), .int 0]) (rest := []) (k := (35 + 2 * j)) S hE hW (cX5_keep_ok l D n ad1 cy sa H.size N B (by omega) (by omega) (by omega) al (unlS X j 0 a) ex j hj a ((congrFun (unlS_o (k := 10 + j) (by omega) a) 2).trans hXb) (by omega) 0 (by omega) (by omega) 0) (cwV 2 hts gX4_pass_X5_keep rfl rfl rfl (by decide +kernel) ⟨Nat.le_of_ble_eq_true rfl, Nat.le_of_ble_eq_true rfl⟩) (by omega) (sW_so (i := j) hj) rfl rfl rfl hl.1 rfl (Nat.le_of_ble_eq_true rfl) dX4_pass_187 ⟨(by dsimp only; omega), (by dsimp only; omega)⟩ (fun ad2 H locs had2 hW => ?_)
                replace hW : WS D n ad2 (sW cy ad2 N B al (zup (zset (unlS X j 0 a) (17 + j) (kpF ((unlS X j 0 a) (17 + j)) a 0 0)) (10 + j) 2 (nI 0)) ex) (Acc n ad s.heap.size) s.heap H locs := hW
                rw [keep_le (by omega)] at hW
                replace hl : lv_has ls 12 [(10, .int (nI a)), (9, .int (nI a)), (6, .ref (ad2 (35 + 2 * j))), (5, .int (nI j)), (4, .int (nI N)), (3, .ref (ad2 33)), (2, .int ((be (8 + 0) 0 + be (8 + 0) 1) + be (8 + 0) 2)), (1, .int (nI g)), (0, .ref (ad2 28))] := by
                  rw [had2 (35 + 2 * j) (by omega), had2 33 (by omega), had2 28 (by omega)]; exact lv_sub hl [0, 1, 3, 4, 5, 6, 7, 8, 9] rfl
                refine lv_aload hx hb dX4_pass_190 (lv_at hl 2 rfl) ?_
                refine lv_iconst (v := 2) hx hb dX4_pass_192 (by decide) ?_
                refine z_put (ce' := sW cy ad2 N B al (zup (zup (unlS X j 0 a) (10 + j) 2 (nI 0)) (10 + j) 4 2) ex) (C := RX5) (T := TX5) (N := 4) (ci := 5) S hE hW hi5 tyX5 tyX5_ok nmX5 rfl (by omega) (sW_so (i := j) hj) 2 (by decide) rfl f56 rfl rfl (Nat.le_of_ble_eq_true rfl) (pS_s (i := j) hj (by decide)) (fun j h => oS_s (by omega) hN6 hB4 (by decide) h) dX4_pass_193 (fun H locs hW => ?_)
                refine lv_goto (tgt := 245) hx hb dX4_pass_196 (by decide) ?_
                refine lv_iinc (v := nI (j + 1)) (lv' := [(5, .int (nI (j + 1))), (10, .int (nI a)), (9, .int (nI a)), (6, .ref (ad2 (35 + 2 * j))), (4, .int (nI N)), (3, .ref (ad2 33)), (2, .int ((be (8 + 0) 0 + be (8 + 0) 1) + be (8 + 0) 2)), (1, .int (nI g)), (0, .ref (ad2 28))]) hx hb dX4_pass_245 hl (k := 3) rfl (nI_1 _) (by decide) rfl (fun ls hl => ?_)
                refine lv_goto (tgt := 30) hx hb dX4_pass_248 (by decide) ?_
                rw [← hX, zup_zup] at hW
                rw [trv_land c49 (slide_n hTa ha8 hg9 (fun q => q.1 c62)) c122 hTa (by omega), ← hT] at hW
                refine W.widen (k := 2 * (j + 1)) (n := 16 * (j + 1)) (by omega) (by omega) ?_
                exact ih (j + 1) ad2 H locs ls (by omega) (fun k hk => (had2 k (hk j (by omega))).trans (had1 k hk)) hW (lv_sub hl [0, 4, 5, 6, 7, 8] rfl)
              | succ kr ihq =>
                intro q H locs ls hjkq hW hl
                have hjq : q < a := by omega
                refine lv_iload hx hb dX4_pass_149 (lv_at hl 0 rfl) ?_
                refine lv_iload hx hb dX4_pass_151 (lv_at hl 1 rfl) ?_
                refine lv_icmp_ge (tgt := 183) hx hb dX4_pass_153 (by decide) (fun h => absurd h (nI_ge hjq (by omega))) (fun _ => ?_)
                refine lv_aload hx hb dX4_pass_156 (lv_at hl 2 rfl) ?_
                refine lv_iload hx hb dX4_pass_158 (lv_at hl 0 rfl) ?_
                refine z_ald S hE hW (by omega) (sW_sal hj ((congrFun (unlS_o (k := 10 + j) (by omega) q) 2).trans hXb) (by omega)) q rfl (by omega) (by omega) (v := X (17 + j) q) (congrFun (unlS_o (k := 17 + j) (by omega) q) q) dX4_pass_160 ?_
                refine lv_istore (lv' := [(11, .int (X (17 + j) q)), (10, .int (nI q)), (9, .int (nI a)), (8, .ref (ad1 (36 + 2 * j))), (6, .ref (ad1 (35 + 2 * j))), (5, .int (nI j)), (4, .int (nI N)), (3, .ref (ad1 33)), (2, .int ((be (8 + 0) 0 + be (8 + 0) 1) + be (8 + 0) 2)), (1, .int (nI g)), (0, .ref (ad1 28))]) hx hb dX4_pass_161 hl (by decide) rfl (fun ls hl => ?_)
                refine lv_aload_n hx hb dX4_pass_163 rfl (lv_at hl 10 rfl) ?_
                refine z_get (C := RX4) (T := TX4) (N := 9) (ci := 4) S hE hW hi4 rfl (by omega) sW_28 5 (by decide) rfl f30 (v := .ref (ad1 32)) rfl dX4_pass_164 ?_
                refine lv_iload hx hb dX4_pass_167 (lv_at hl 0 rfl) ?_
                refine z_pSN (As := [.int (X (17 + j) q)]) (rest := [.ref (ad1 32)]) S hE hW (cL_kind_ok l (X (17 + j) q)) (⟨va_cnB 1 hts gX4_pass_L_kind_n66 rfl rfl rfl (hE.1.2.1.at 7 rfl) in_L (by decide +kernel) ⟨Nat.le_of_ble_eq_true rfl, Nat.le_of_ble_eq_true rfl⟩, stt_L_kind, trivial⟩) rfl hl.1 rfl (Nat.le_of_ble_eq_true rfl) dX4_pass_169 ⟨(by dsimp only; omega), (by dsimp only; omega)⟩ (fun H locs hW => ?_)
                refine lv_dup2_11 hx hb dX4_pass_172 rfl rfl ?_
                refine z_ald S hE hW (by omega) sW_32 (knN (X (17 + j) q)) (knd_nI _) (knN_lt _) (by decide) (v := (unlS X j 0 q) (8 + 0) (knN (X (17 + j) q))) rfl dX4_pass_173 ?_
                refine lv_iconst (v := 1) hx hb dX4_pass_174 (by decide) ?_
                refine lv_iadd hx hb dX4_pass_175 ?_
                refine z_ast (ce' := sW cy ad1 N B al (zup (unlS X j 0 q) (8 + 0) (knN (X (17 + j) q)) ((unlS X j 0 q) (8 + 0) (knN (X (17 + j) q)) + 1)) ex) S hE hW (by omega) sW_32 (knN (X (17 + j) q)) (knd_nI _) (knN_lt _) (by decide) pS_8 (fun j h => oS_8 h) dX4_pass_176 (fun H locs hW => ?_)
                refine lv_iinc (v := nI (q + 1)) (lv' := [(10, .int (nI (q + 1))), (11, .int (X (17 + j) q)), (9, .int (nI a)), (8, .ref (ad1 (36 + 2 * j))), (6, .ref (ad1 (35 + 2 * j))), (5, .int (nI j)), (4, .int (nI N)), (3, .ref (ad1 33)), (2, .int ((be (8 + 0) 0 + be (8 + 0) 1) + be (8 + 0) 2)), (1, .int (nI g)), (0, .ref (ad1 28))]) hx hb dX4_pass_177 hl (k := 1) rfl (nI_1 _) (by decide) rfl (fun ls hl => ?_)
                refine lv_goto (tgt := 149) hx hb dX4_pass_180 (by decide) ?_
                exact ihq (q + 1) H locs ls (by omega) hW (lv_sub hl [0, 2, 3, 4, 5, 6, 7, 8, 9, 10] rfl)
            exact L149 (a) 0 _ _ ls (by omega) hW (lv_sub hl [0, 1, 2, 4, 5, 6, 7, 8, 9, 10] rfl)
          · refine lv_goto (tgt := 245) hx hb dX4_pass_125 (by decide) ?_
            refine lv_iinc (v := nI (j + 1)) (lv' := [(5, .int (nI (j + 1))), (7, .int (nI a)), (6, .ref (ad1 (35 + 2 * j))), (4, .int (nI N)), (3, .ref (ad1 33)), (2, .int ((be (8 + 0) 0 + be (8 + 0) 1) + be (8 + 0) 2)), (1, .int (nI g)), (0, .ref (ad1 28))]) hx hb dX4_pass_245 hl (k := 2) rfl (nI_1 _) (by decide) rfl (fun ls hl => ?_)
            refine lv_goto (tgt := 30) hx hb dX4_pass_248 (by decide) ?_
            rw [trv_stay c49 (slide_n hTa ha8 hg9 (fun q => q.1 c62)) c122, ← hT] at hW
            refine W.widen (k := 2 * (j + 1)) (n := 16 * (j + 1)) (by omega) (by omega) ?_
            exact ih (j + 1) ad1 H locs ls (by omega) (fun k hk => had1 k hk) hW (lv_sub hl [0, 3, 4, 5, 6, 7] rfl)
        · have ha0 : 0 < a := Nat.pos_of_ne_zero (fun q => c62 (by rw [q]; decide))
          refine lv_iload_n hx hb dX4_pass_65 rfl (lv_at hl 6 rfl) ?_
          refine lv_iconst (v := 4) hx hb dX4_pass_66 (by decide) ?_
          refine lv_isub hx hb dX4_pass_67 ?_
          refine lv_iload hx hb dX4_pass_68 (lv_at hl 0 rfl) ?_
          refine lv_iload hx hb dX4_pass_70 (lv_at hl 0 rfl) ?_
          refine lv_iadd hx hb dX4_pass_72 ?_
          refine lv_icmp_le (tgt := 97) hx hb dX4_pass_73 (by decide) (fun c73 => ?_) (fun c73 => ?_)
          · refine lv_aload hx hb dX4_pass_97 (lv_at hl 1 rfl) ?_
            refine lv_dup hx hb dX4_pass_99 rfl ?_
            refine z_get (C := RX5) (T := TX5) (N := 4) (ci := 5) S hE hW hi5 rfl (by omega) (sW_so (i := j) hj) 1 (by decide) rfl f63 (v := .int (T (10 + j) 3)) rfl dX4_pass_100 ?_
            refine lv_iconst (v := 4) hx hb dX4_pass_103 (by decide) ?_
            refine lv_iload hx hb dX4_pass_104 (lv_at hl 0 rfl) ?_
            refine lv_iconst (v := 3) hx hb dX4_pass_106 (by decide) ?_
            refine lv_idiv hx hb dX4_pass_107 (by decide) ?_
            refine lv_isub hx hb dX4_pass_108 ?_
            refine lv_iload_n hx hb dX4_pass_109 rfl (lv_at hl 6 rfl) ?_
            refine lv_iconst (v := 2) hx hb dX4_pass_110 (by decide) ?_
            refine lv_idiv hx hb dX4_pass_111 (by decide) ?_
            refine lv_iadd hx hb dX4_pass_112 ?_
            refine lv_isub hx hb dX4_pass_113 ?_
            refine z_put (ce' := sW cy ad1 N B al (zup T (10 + j) 3 (T (10 + j) 3 - ((4 - (nI a / 3)) + (nI g / 2)))) ex) (C := RX5) (T := TX5) (N := 4) (ci := 5) S hE hW hi5 tyX5 tyX5_ok nmX5 rfl (by omega) (sW_so (i := j) hj) 1 (by decide) rfl f63 rfl rfl (Nat.le_of_ble_eq_true rfl) (pS_s (i := j) hj (by decide)) (fun j h => oS_s (by omega) hN6 hB4 (by decide) h) dX4_pass_114 (fun H locs hW => ?_)
            refine lv_aload hx hb dX4_pass_117 (lv_at hl 1 rfl) ?_
            refine z_get (C := RX5) (T := TX5) (N := 4) (ci := 5) S hE hW hi5 rfl (by omega) (sW_so (i := j) hj) 1 (by decide) rfl f63 (v := .int (T (10 + j) 3 - ((4 - (nI a / 3)) + (nI g / 2)))) (congrArg (fun z => some (Value.int z)) ((congrFun zup_k 3).trans up_s)) dX4_pass_119 ?_
            refine lv_if_le (tgt := 128) hx hb dX4_pass_122 (by decide) (fun c122 => ?_) (fun c122 => ?_)
            · refine lv_aload hx hb dX4_pass_128 (lv_at hl 1 rfl) ?_
              refine lv_iconst (v := 0) hx hb dX4_pass_130 (by decide) ?_
              refine z_put (ce' := sW cy ad1 N B al (zup (zup T (10 + j) 3 (T (10 + j) 3 - ((4 - (nI a / 3)) + (nI g / 2)))) (10 + j) 3 0) ex) (C := RX5) (T := TX5) (N := 4) (ci := 5) S hE hW hi5 tyX5 tyX5_ok nmX5 rfl (by omega) (sW_so (i := j) hj) 1 (by decide) rfl f63 rfl rfl (Nat.le_of_ble_eq_true rfl) (pS_s (i := j) hj (by decide)) (fun j h => oS_s (by omega) hN6 hB4 (by decide) h) dX4_pass_131 (fun H locs hW => ?_)
              refine lv_aload hx hb dX4_pass_134 (lv_at hl 1 rfl) ?_
              refine z_get (C := RX5) (T := TX5) (N := 4) (ci := 5) S hE hW hi5 rfl (by omega) (sW_so (i := j) hj) 3 (by decide) rfl f49 (v := .ref (ad1 (36 + 2 * j))) rfl dX4_pass_136 ?_
              refine lv_astore (lv' := [(8, .ref (ad1 (36 + 2 * j))), (7, .int (nI a)), (6, .ref (ad1 (35 + 2 * j))), (5, .int (nI j)), (4, .int (nI N)), (3, .ref (ad1 33)), (2, .int ((be (8 + 0) 0 + be (8 + 0) 1) + be (8 + 0) 2)), (1, .int (nI g)), (0, .ref (ad1 28))]) hx hb dX4_pass_139 hl (by decide) rfl (fun ls hl => ?_)
              refine lv_aload hx hb dX4_pass_141 (lv_at hl 0 rfl) ?_
              refine z_alenG (t0 := 0) S hE hW (by omega) (sW_sal hj ((((congrFun zup_k 2).trans (up_n (by decide))).trans ((congrFun zup_k 2).trans (up_n (by decide)))).trans hTa) (by omega)) rfl (v := nI a) rfl dX4_pass_143 ?_
              refine lv_istore (lv' := [(9, .int (nI a)), (8, .ref (ad1 (36 + 2 * j))), (7, .int (nI a)), (6, .ref (ad1 (35 + 2 * j))), (5, .int (nI j)), (4, .int (nI N)), (3, .ref (ad1 33)), (2, .int ((be (8 + 0) 0 + be (8 + 0) 1) + be (8 + 0) 2)), (1, .int (nI g)), (0, .ref (ad1 28))]) hx hb dX4_pass_144 hl (by decide) rfl (fun ls hl => ?_)
              refine lv_iconst (v := 0) hx hb dX4_pass_146 (by decide) ?_
              refine lv_istore (lv' := [(10, .int 0), (9, .int (nI a)), (8, .ref (ad1 (36 + 2 * j))), (7, .int (nI a)), (6, .ref (ad1 (35 + 2 * j))), (5, .int (nI j)), (4, .int (nI N)), (3, .ref (ad1 33)), (2, .int ((be (8 + 0) 0 + be (8 + 0) 1) + be (8 + 0) 2)), (1, .int (nI g)), (0, .ref (ad1 28))]) hx hb dX4_pass_147 hl (by decide) rfl (fun ls hl => ?_)
              have hXb : ((zup (zup T (10 + j) 3 (T (10 + j) 3 - ((4 - (nI a / 3)) + (nI g / 2)))) (10 + j) 3 0)) (10 + j) 2 = nI a := ((((congrFun zup_k 2).trans (up_n (by decide))).trans ((congrFun zup_k 2).trans (up_n (by decide)))).trans hTa)
              generalize hX : (zup (zup T (10 + j) 3 (T (10 + j) 3 - ((4 - (nI a / 3)) + (nI g / 2)))) (10 + j) 3 0) = X at hW hXb
              have L149 : ∀ (kr q : Nat) (H : Heap) (locs : List Loc) (ls : Array Slot), q + kr = a → WS D n ad1 (sW cy ad1 N B al (unlS X j 0 q) ex) (Acc n ad s.heap.size) s.heap H locs → lv_has ls 12 [(10, .int (nI q)), (9, .int (nI a)), (8, .ref (ad1 (36 + 2 * j))), (6, .ref (ad1 (35 + 2 * j))), (5, .int (nI j)), (4, .int (nI N)), (3, .ref (ad1 33)), (2, .int ((be (8 + 0) 0 + be (8 + 0) 1) + be (8 + 0) 2)), (1, .int (nI g)), (0, .ref (ad1 28))] → W p l e ({ frames := 1, cells := 12, slots := 96, locals := 24 }) s m args below meth c H locs (2 * j) (16 * j) (MQ below (QGi D n ad s.heap.size (fun r (u : Nat → Nat) => r = ash (hourS be) - ash be ∧ ∀ k, (∀ i, i < N → k ≠ 36 + 2 * i) → u k = ad k) (fun u => wL n u (sW cy u N B al (hourS be) ex))) args s 12 96 (Acc n ad s.heap.size)) (F0 m 149 ls []) := by
                intro kr
                induction kr with
                | zero =>
                  intro q H locs ls hjkq hW hl
                  have hjNq : q = a := by omega
                  try rw [hjNq] at hW
                  try rw [hjNq] at hl
                  refine lv_iload hx hb dX4_pass_149 (lv_at hl 0 rfl) ?_
                  refine lv_iload hx hb dX4_pass_151 (lv_at hl 1 rfl) ?_
                  refine lv_icmp_ge (tgt := 183) hx hb dX4_pass_153 (by decide) (fun _ => ?_) (fun h => absurd (nI_le (Nat.le_refl _) (by omega)) h)
                  refine lv_aload hx hb dX4_pass_183 (lv_at hl 3 rfl) ?_
                  refine lv_iconst (v := 0) hx hb dX4_pass_185 (by decide) ?_
                  refine lv_iconst (v := 0) hx hb dX4_pass_186 (by decide) ?_
                  refine z_gVv (As := [.int (nI 0), .int 0]) (rest := []) (k := (35 + 2 * j)) S hE hW (cX5_keep_ok l D n ad1 cy sa H.size N B (by omega) (by omega) (by omega) al (unlS X j 0 a) ex j hj a ((congrFun (unlS_o (k := 10 + j) (by omega) a) 2).trans hXb) (by omega) 0 (by omega) (by omega) 0) (cwV 2 hts gX4_pass_X5_keep rfl rfl rfl (by decide +kernel) ⟨Nat.le_of_ble_eq_true rfl, Nat.le_of_ble_eq_true rfl⟩) (by omega) (sW_so (i := j) hj) rfl rfl rfl hl.1 rfl (Nat.le_of_ble_eq_true rfl) dX4_pass_187 ⟨(by dsimp only; omega), (by dsimp only; omega)⟩ (fun ad3 H locs had3 hW => ?_)
                  replace hW : WS D n ad3 (sW cy ad3 N B al (zup (zset (unlS X j 0 a) (17 + j) (kpF ((unlS X j 0 a) (17 + j)) a 0 0)) (10 + j) 2 (nI 0)) ex) (Acc n ad s.heap.size) s.heap H locs := hW
                  rw [keep_le (by omega)] at hW
                  replace hl : lv_has ls 12 [(10, .int (nI a)), (9, .int (nI a)), (6, .ref (ad3 (35 + 2 * j))), (5, .int (nI j)), (4, .int (nI N)), (3, .ref (ad3 33)), (2, .int ((be (8 + 0) 0 + be (8 + 0) 1) + be (8 + 0) 2)), (1, .int (nI g)), (0, .ref (ad3 28))] := by
                    rw [had3 (35 + 2 * j) (by omega), had3 33 (by omega), had3 28 (by omega)]; exact lv_sub hl [0, 1, 3, 4, 5, 6, 7, 8, 9] rfl
                  refine lv_aload hx hb dX4_pass_190 (lv_at hl 2 rfl) ?_
                  refine lv_iconst (v := 2) hx hb dX4_pass_192 (by decide) ?_
                  refine z_put (ce' := sW cy ad3 N B al (zup (zup (unlS X j 0 a) (10 + j) 2 (nI 0)) (10 + j) 4 2) ex) (C := RX5) (T := TX5) (N := 4) (ci := 5) S hE hW hi5 tyX5 tyX5_ok nmX5 rfl (by omega) (sW_so (i := j) hj) 2 (by decide) rfl f56 rfl rfl (Nat.le_of_ble_eq_true rfl) (pS_s (i := j) hj (by decide)) (fun j h => oS_s (by omega) hN6 hB4 (by decide) h) dX4_pass_193 (fun H locs hW => ?_)
                  refine lv_goto (tgt := 245) hx hb dX4_pass_196 (by decide) ?_
                  refine lv_iinc (v := nI (j + 1)) (lv' := [(5, .int (nI (j + 1))), (10, .int (nI a)), (9, .int (nI a)), (6, .ref (ad3 (35 + 2 * j))), (4, .int (nI N)), (3, .ref (ad3 33)), (2, .int ((be (8 + 0) 0 + be (8 + 0) 1) + be (8 + 0) 2)), (1, .int (nI g)), (0, .ref (ad3 28))]) hx hb dX4_pass_245 hl (k := 3) rfl (nI_1 _) (by decide) rfl (fun ls hl => ?_)
                  refine lv_goto (tgt := 30) hx hb dX4_pass_248 (by decide) ?_
                  rw [← hX, zup_zup] at hW
                  rw [trv_land c49 (slide_n hTa ha8 hg9 (fun q => q.2 c73)) c122 hTa (by omega), ← hT] at hW
                  refine W.widen (k := 2 * (j + 1)) (n := 16 * (j + 1)) (by omega) (by omega) ?_
                  exact ih (j + 1) ad3 H locs ls (by omega) (fun k hk => (had3 k (hk j (by omega))).trans (had1 k hk)) hW (lv_sub hl [0, 4, 5, 6, 7, 8] rfl)
                | succ kr ihq =>
                  intro q H locs ls hjkq hW hl
                  have hjq : q < a := by omega
                  refine lv_iload hx hb dX4_pass_149 (lv_at hl 0 rfl) ?_
                  refine lv_iload hx hb dX4_pass_151 (lv_at hl 1 rfl) ?_
                  refine lv_icmp_ge (tgt := 183) hx hb dX4_pass_153 (by decide) (fun h => absurd h (nI_ge hjq (by omega))) (fun _ => ?_)
                  refine lv_aload hx hb dX4_pass_156 (lv_at hl 2 rfl) ?_
                  refine lv_iload hx hb dX4_pass_158 (lv_at hl 0 rfl) ?_
                  refine z_ald S hE hW (by omega) (sW_sal hj ((congrFun (unlS_o (k := 10 + j) (by omega) q) 2).trans hXb) (by omega)) q rfl (by omega) (by omega) (v := X (17 + j) q) (congrFun (unlS_o (k := 17 + j) (by omega) q) q) dX4_pass_160 ?_
                  refine lv_istore (lv' := [(11, .int (X (17 + j) q)), (10, .int (nI q)), (9, .int (nI a)), (8, .ref (ad1 (36 + 2 * j))), (6, .ref (ad1 (35 + 2 * j))), (5, .int (nI j)), (4, .int (nI N)), (3, .ref (ad1 33)), (2, .int ((be (8 + 0) 0 + be (8 + 0) 1) + be (8 + 0) 2)), (1, .int (nI g)), (0, .ref (ad1 28))]) hx hb dX4_pass_161 hl (by decide) rfl (fun ls hl => ?_)
                  refine lv_aload_n hx hb dX4_pass_163 rfl (lv_at hl 10 rfl) ?_
                  refine z_get (C := RX4) (T := TX4) (N := 9) (ci := 4) S hE hW hi4 rfl (by omega) sW_28 5 (by decide) rfl f30 (v := .ref (ad1 32)) rfl dX4_pass_164 ?_
                  refine lv_iload hx hb dX4_pass_167 (lv_at hl 0 rfl) ?_
                  refine z_pSN (As := [.int (X (17 + j) q)]) (rest := [.ref (ad1 32)]) S hE hW (cL_kind_ok l (X (17 + j) q)) (⟨va_cnB 1 hts gX4_pass_L_kind_n66 rfl rfl rfl (hE.1.2.1.at 7 rfl) in_L (by decide +kernel) ⟨Nat.le_of_ble_eq_true rfl, Nat.le_of_ble_eq_true rfl⟩, stt_L_kind, trivial⟩) rfl hl.1 rfl (Nat.le_of_ble_eq_true rfl) dX4_pass_169 ⟨(by dsimp only; omega), (by dsimp only; omega)⟩ (fun H locs hW => ?_)
                  refine lv_dup2_11 hx hb dX4_pass_172 rfl rfl ?_
                  refine z_ald S hE hW (by omega) sW_32 (knN (X (17 + j) q)) (knd_nI _) (knN_lt _) (by decide) (v := (unlS X j 0 q) (8 + 0) (knN (X (17 + j) q))) rfl dX4_pass_173 ?_
                  refine lv_iconst (v := 1) hx hb dX4_pass_174 (by decide) ?_
                  refine lv_iadd hx hb dX4_pass_175 ?_
                  refine z_ast (ce' := sW cy ad1 N B al (zup (unlS X j 0 q) (8 + 0) (knN (X (17 + j) q)) ((unlS X j 0 q) (8 + 0) (knN (X (17 + j) q)) + 1)) ex) S hE hW (by omega) sW_32 (knN (X (17 + j) q)) (knd_nI _) (knN_lt _) (by decide) pS_8 (fun j h => oS_8 h) dX4_pass_176 (fun H locs hW => ?_)
                  refine lv_iinc (v := nI (q + 1)) (lv' := [(10, .int (nI (q + 1))), (11, .int (X (17 + j) q)), (9, .int (nI a)), (8, .ref (ad1 (36 + 2 * j))), (6, .ref (ad1 (35 + 2 * j))), (5, .int (nI j)), (4, .int (nI N)), (3, .ref (ad1 33)), (2, .int ((be (8 + 0) 0 + be (8 + 0) 1) + be (8 + 0) 2)), (1, .int (nI g)), (0, .ref (ad1 28))]) hx hb dX4_pass_177 hl (k := 1) rfl (nI_1 _) (by decide) rfl (fun ls hl => ?_)
                  refine lv_goto (tgt := 149) hx hb dX4_pass_180 (by decide) ?_
                  exact ihq (q + 1) H locs ls (by omega) hW (lv_sub hl [0, 2, 3, 4, 5, 6, 7, 8, 9, 10] rfl)
              exact L149 (a) 0 _ _ ls (by omega) hW (lv_sub hl [0, 1, 2, 4, 5, 6, 7, 8, 9, 10] rfl)
            · refine lv_goto (tgt := 245) hx hb dX4_pass_125 (by decide) ?_
              refine lv_iinc (v := nI (j + 1)) (lv' := [(5, .int (nI (j + 1))), (7, .int (nI a)), (6, .ref (ad1 (35 + 2 * j))), (4, .int (nI N)), (3, .ref (ad1 33)), (2, .int ((be (8 + 0) 0 + be (8 + 0) 1) + be (8 + 0) 2)), (1, .int (nI g)), (0, .ref (ad1 28))]) hx hb dX4_pass_245 hl (k := 2) rfl (nI_1 _) (by decide) rfl (fun ls hl => ?_)
              refine lv_goto (tgt := 30) hx hb dX4_pass_248 (by decide) ?_
              rw [trv_stay c49 (slide_n hTa ha8 hg9 (fun q => q.2 c73)) c122, ← hT] at hW
              refine W.widen (k := 2 * (j + 1)) (n := 16 * (j + 1)) (by omega) (by omega) ?_
              exact ih (j + 1) ad1 H locs ls (by omega) (fun k hk => had1 k hk) hW (lv_sub hl [0, 3, 4, 5, 6, 7] rfl)
          · refine lv_iinc (v := nI (a - 1)) (lv' := [(7, .int (nI (a - 1))), (6, .ref (ad1 (35 + 2 * j))), (5, .int (nI j)), (4, .int (nI N)), (3, .ref (ad1 33)), (2, .int ((be (8 + 0) 0 + be (8 + 0) 1) + be (8 + 0) 2)), (1, .int (nI g)), (0, .ref (ad1 28))]) hx hb dX4_pass_76 hl (k := 0) rfl (z_dec ha0) (by decide) rfl (fun ls hl => ?_)
            refine lv_aload hx hb dX4_pass_79 (lv_at hl 1 rfl) ?_
            refine lv_iload hx hb dX4_pass_81 (lv_at hl 0 rfl) ?_
            refine lv_iconst (v := 0) hx hb dX4_pass_83 (by decide) ?_
            refine z_gVv (As := [.int (nI (a - 1)), .int 0]) (rest := []) (k := (35 + 2 * j)) S hE hW (cX5_keep_ok l D n ad1 cy sa H.size N B (by omega) (by omega) (by omega) al T ex j hj a hTa (by omega) (a - 1) (by omega) (by omega) 0) (cwV 2 hts gX4_pass_X5_keep rfl rfl rfl (by decide +kernel) ⟨Nat.le_of_ble_eq_true rfl, Nat.le_of_ble_eq_true rfl⟩) (by omega) (sW_so (i := j) hj) rfl rfl rfl hl.1 rfl (Nat.le_of_ble_eq_true rfl) dX4_pass_84 ⟨(by dsimp only; omega), (by dsimp only; omega)⟩ (fun ad4 H locs had4 hW => ?_)
            replace hW : WS D n ad4 (sW cy ad4 N B al (zup (zset T (17 + j) (kpF (T (17 + j)) a (a - 1) 0)) (10 + j) 2 (nI (a - 1))) ex) (Acc n ad s.heap.size) s.heap H locs := hW
            rw [keep_le (by omega)] at hW
            replace hl : lv_has ls 12 [(7, .int (nI (a - 1))), (6, .ref (ad4 (35 + 2 * j))), (5, .int (nI j)), (4, .int (nI N)), (3, .ref (ad4 33)), (2, .int ((be (8 + 0) 0 + be (8 + 0) 1) + be (8 + 0) 2)), (1, .int (nI g)), (0, .ref (ad4 28))] := by
              rw [had4 (35 + 2 * j) (by omega), had4 33 (by omega), had4 28 (by omega)]; exact hl
            refine lv_aload_n hx hb dX4_pass_87 rfl (lv_at hl 7 rfl) ?_
            refine lv_dup hx hb dX4_pass_88 rfl ?_
            refine z_get (C := RX4) (T := TX4) (N := 9) (ci := 4) S hE hW hi4 rfl (by omega) sW_28 8 (by decide) rfl f46 (v := .int (T (6 + 0) 1)) (congrArg (fun z => some (Value.int z)) (congrFun (zup_o (by omega)) 1)) dX4_pass_89 ?_
            refine lv_iconst (v := 1) hx hb dX4_pass_92 (by decide) ?_
            refine lv_iadd hx hb dX4_pass_93 ?_
            refine z_put (ce' := sW cy ad4 N B al (zup (zup T (10 + j) 2 (nI (a - 1))) (6 + 0) 1 (T (6 + 0) 1 + 1)) ex) (C := RX4) (T := TX4) (N := 9) (ci := 4) S hE hW hi4 tyX4 tyX4_ok nmX4 rfl (by omega) sW_28 8 (by decide) rfl f46 rfl rfl (Nat.le_of_ble_eq_true rfl) pS_6 (fun j h => oS_6 h) dX4_pass_94 (fun H locs hW => ?_)
            refine lv_aload hx hb dX4_pass_97 (lv_at hl 1 rfl) ?_
            refine lv_dup hx hb dX4_pass_99 rfl ?_
            refine z_get (C := RX5) (T := TX5) (N := 4) (ci := 5) S hE hW hi5 rfl (by omega) (sW_so (i := j) hj) 1 (by decide) rfl f63 (v := .int (T (10 + j) 3)) (congrArg (fun z => some (Value.int z)) ((congrFun (zup_o (by omega)) 3).trans ((congrFun zup_k 3).trans (up_n (by decide))))) dX4_pass_100 ?_
            refine lv_iconst (v := 4) hx hb dX4_pass_103 (by decide) ?_
            refine lv_iload hx hb dX4_pass_104 (lv_at hl 0 rfl) ?_
            refine lv_iconst (v := 3) hx hb dX4_pass_106 (by decide) ?_
            refine lv_idiv hx hb dX4_pass_107 (by decide) ?_
            refine lv_isub hx hb dX4_pass_108 ?_
            refine lv_iload_n hx hb dX4_pass_109 rfl (lv_at hl 6 rfl) ?_
            refine lv_iconst (v := 2) hx hb dX4_pass_110 (by decide) ?_
            refine lv_idiv hx hb dX4_pass_111 (by decide) ?_
            refine lv_iadd hx hb dX4_pass_112 ?_
            refine lv_isub hx hb dX4_pass_113 ?_
            refine z_put (ce' := sW cy ad4 N B al (zup (zup (zup T (10 + j) 2 (nI (a - 1))) (6 + 0) 1 (T (6 + 0) 1 + 1)) (10 + j) 3 (T (10 + j) 3 - ((4 - (nI (a - 1) / 3)) + (nI g / 2)))) ex) (C := RX5) (T := TX5) (N := 4) (ci := 5) S hE hW hi5 tyX5 tyX5_ok nmX5 rfl (by omega) (sW_so (i := j) hj) 1 (by decide) rfl f63 rfl rfl (Nat.le_of_ble_eq_true rfl) (pS_s (i := j) hj (by decide)) (fun j h => oS_s (by omega) hN6 hB4 (by decide) h) dX4_pass_114 (fun H locs hW => ?_)
            refine lv_aload hx hb dX4_pass_117 (lv_at hl 1 rfl) ?_
            refine z_get (C := RX5) (T := TX5) (N := 4) (ci := 5) S hE hW hi5 rfl (by omega) (sW_so (i := j) hj) 1 (by decide) rfl f63 (v := .int (T (10 + j) 3 - ((4 - (nI (a - 1) / 3)) + (nI g / 2)))) (congrArg (fun z => some (Value.int z)) ((congrFun zup_k 3).trans up_s)) dX4_pass_119 ?_
            refine lv_if_le (tgt := 128) hx hb dX4_pass_122 (by decide) (fun c122 => ?_) (fun c122 => ?_)
            · refine lv_aload hx hb dX4_pass_128 (lv_at hl 1 rfl) ?_
              refine lv_iconst (v := 0) hx hb dX4_pass_130 (by decide) ?_
              refine z_put (ce' := sW cy ad4 N B al (zup (zup (zup (zup T (10 + j) 2 (nI (a - 1))) (6 + 0) 1 (T (6 + 0) 1 + 1)) (10 + j) 3 (T (10 + j) 3 - ((4 - (nI (a - 1) / 3)) + (nI g / 2)))) (10 + j) 3 0) ex) (C := RX5) (T := TX5) (N := 4) (ci := 5) S hE hW hi5 tyX5 tyX5_ok nmX5 rfl (by omega) (sW_so (i := j) hj) 1 (by decide) rfl f63 rfl rfl (Nat.le_of_ble_eq_true rfl) (pS_s (i := j) hj (by decide)) (fun j h => oS_s (by omega) hN6 hB4 (by decide) h) dX4_pass_131 (fun H locs hW => ?_)
              refine lv_aload hx hb dX4_pass_134 (lv_at hl 1 rfl) ?_
              refine z_get (C := RX5) (T := TX5) (N := 4) (ci := 5) S hE hW hi5 rfl (by omega) (sW_so (i := j) hj) 3 (by decide) rfl f49 (v := .ref (ad4 (36 + 2 * j))) rfl dX4_pass_136 ?_
              refine lv_astore (lv' := [(8, .ref (ad4 (36 + 2 * j))), (7, .int (nI (a - 1))), (6, .ref (ad4 (35 + 2 * j))), (5, .int (nI j)), (4, .int (nI N)), (3, .ref (ad4 33)), (2, .int ((be (8 + 0) 0 + be (8 + 0) 1) + be (8 + 0) 2)), (1, .int (nI g)), (0, .ref (ad4 28))]) hx hb dX4_pass_139 hl (by decide) rfl (fun ls hl => ?_)
              refine lv_aload hx hb dX4_pass_141 (lv_at hl 0 rfl) ?_
              refine z_alenG (t0 := 0) S hE hW (by omega) (sW_sal hj (((congrFun zup_k 2).trans (up_n (by decide))).trans (((congrFun zup_k 2).trans (up_n (by decide))).trans ((congrFun (zup_o (by omega)) 2).trans ((congrFun zup_k 2).trans up_s)))) (by omega)) rfl (v := nI (a - 1)) rfl dX4_pass_143 ?_
              refine lv_istore (lv' := [(9, .int (nI (a - 1))), (8, .ref (ad4 (36 + 2 * j))), (7, .int (nI (a - 1))), (6, .ref (ad4 (35 + 2 * j))), (5, .int (nI j)), (4, .int (nI N)), (3, .ref (ad4 33)), (2, .int ((be (8 + 0) 0 + be (8 + 0) 1) + be (8 + 0) 2)), (1, .int (nI g)), (0, .ref (ad4 28))]) hx hb dX4_pass_144 hl (by decide) rfl (fun ls hl => ?_)
              refine lv_iconst (v := 0) hx hb dX4_pass_146 (by decide) ?_
              refine lv_istore (lv' := [(10, .int 0), (9, .int (nI (a - 1))), (8, .ref (ad4 (36 + 2 * j))), (7, .int (nI (a - 1))), (6, .ref (ad4 (35 + 2 * j))), (5, .int (nI j)), (4, .int (nI N)), (3, .ref (ad4 33)), (2, .int ((be (8 + 0) 0 + be (8 + 0) 1) + be (8 + 0) 2)), (1, .int (nI g)), (0, .ref (ad4 28))]) hx hb dX4_pass_147 hl (by decide) rfl (fun ls hl => ?_)
              have hXb : ((zup (zup (zup (zup T (10 + j) 2 (nI (a - 1))) (6 + 0) 1 (T (6 + 0) 1 + 1)) (10 + j) 3 (T (10 + j) 3 - ((4 - (nI (a - 1) / 3)) + (nI g / 2)))) (10 + j) 3 0)) (10 + j) 2 = nI (a - 1) := (((congrFun zup_k 2).trans (up_n (by decide))).trans (((congrFun zup_k 2).trans (up_n (by decide))).trans ((congrFun (zup_o (by omega)) 2).trans ((congrFun zup_k 2).trans up_s))))
              generalize hX : (zup (zup (zup (zup T (10 + j) 2 (nI (a - 1))) (6 + 0) 1 (T (6 + 0) 1 + 1)) (10 + j) 3 (T (10 + j) 3 - ((4 - (nI (a - 1) / 3)) + (nI g / 2)))) (10 + j) 3 0) = X at hW hXb
              have L149 : ∀ (kr q : Nat) (H : Heap) (locs : List Loc) (ls : Array Slot), q + kr = (a - 1) → WS D n ad4 (sW cy ad4 N B al (unlS X j 0 q) ex) (Acc n ad s.heap.size) s.heap H locs → lv_has ls 12 [(10, .int (nI q)), (9, .int (nI (a - 1))), (8, .ref (ad4 (36 + 2 * j))), (6, .ref (ad4 (35 + 2 * j))), (5, .int (nI j)), (4, .int (nI N)), (3, .ref (ad4 33)), (2, .int ((be (8 + 0) 0 + be (8 + 0) 1) + be (8 + 0) 2)), (1, .int (nI g)), (0, .ref (ad4 28))] → W p l e ({ frames := 1, cells := 12, slots := 96, locals := 24 }) s m args below meth c H locs ((2 * j + 1)) ((16 * j + 8)) (MQ below (QGi D n ad s.heap.size (fun r (u : Nat → Nat) => r = ash (hourS be) - ash be ∧ ∀ k, (∀ i, i < N → k ≠ 36 + 2 * i) → u k = ad k) (fun u => wL n u (sW cy u N B al (hourS be) ex))) args s 12 96 (Acc n ad s.heap.size)) (F0 m 149 ls []) := by
                intro kr
                induction kr with
                | zero =>
                  intro q H locs ls hjkq hW hl
                  have hjNq : q = (a - 1) := by omega
                  try rw [hjNq] at hW
                  try rw [hjNq] at hl
                  refine lv_iload hx hb dX4_pass_149 (lv_at hl 0 rfl) ?_
                  refine lv_iload hx hb dX4_pass_151 (lv_at hl 1 rfl) ?_
                  refine lv_icmp_ge (tgt := 183) hx hb dX4_pass_153 (by decide) (fun _ => ?_) (fun h => absurd (nI_le (Nat.le_refl _) (by omega)) h)
                  refine lv_aload hx hb dX4_pass_183 (lv_at hl 3 rfl) ?_
                  refine lv_iconst (v := 0) hx hb dX4_pass_185 (by decide) ?_
                  refine lv_iconst (v := 0) hx hb dX4_pass_186 (by decide) ?_
                  refine z_gVv (As := [.int (nI 0), .int 0]) (rest := []) (k := (35 + 2 * j)) S hE hW (cX5_keep_ok l D n ad4 cy sa H.size N B (by omega) (by omega) (by omega) al (unlS X j 0 (a - 1)) ex j hj (a - 1) ((congrFun (unlS_o (k := 10 + j) (by omega) (a - 1)) 2).trans hXb) (by omega) 0 (by omega) (by omega) 0) (cwV 2 hts gX4_pass_X5_keep rfl rfl rfl (by decide +kernel) ⟨Nat.le_of_ble_eq_true rfl, Nat.le_of_ble_eq_true rfl⟩) (by omega) (sW_so (i := j) hj) rfl rfl rfl hl.1 rfl (Nat.le_of_ble_eq_true rfl) dX4_pass_187 ⟨(by dsimp only; omega), (by dsimp only; omega)⟩ (fun ad5 H locs had5 hW => ?_)
                  replace hW : WS D n ad5 (sW cy ad5 N B al (zup (zset (unlS X j 0 (a - 1)) (17 + j) (kpF ((unlS X j 0 (a - 1)) (17 + j)) (a - 1) 0 0)) (10 + j) 2 (nI 0)) ex) (Acc n ad s.heap.size) s.heap H locs := hW
                  rw [keep_le (by omega)] at hW
                  replace hl : lv_has ls 12 [(10, .int (nI (a - 1))), (9, .int (nI (a - 1))), (6, .ref (ad5 (35 + 2 * j))), (5, .int (nI j)), (4, .int (nI N)), (3, .ref (ad5 33)), (2, .int ((be (8 + 0) 0 + be (8 + 0) 1) + be (8 + 0) 2)), (1, .int (nI g)), (0, .ref (ad5 28))] := by
                    rw [had5 (35 + 2 * j) (by omega), had5 33 (by omega), had5 28 (by omega)]; exact lv_sub hl [0, 1, 3, 4, 5, 6, 7, 8, 9] rfl
                  refine lv_aload hx hb dX4_pass_190 (lv_at hl 2 rfl) ?_
                  refine lv_iconst (v := 2) hx hb dX4_pass_192 (by decide) ?_
                  refine z_put (ce' := sW cy ad5 N B al (zup (zup (unlS X j 0 (a - 1)) (10 + j) 2 (nI 0)) (10 + j) 4 2) ex) (C := RX5) (T := TX5) (N := 4) (ci := 5) S hE hW hi5 tyX5 tyX5_ok nmX5 rfl (by omega) (sW_so (i := j) hj) 2 (by decide) rfl f56 rfl rfl (Nat.le_of_ble_eq_true rfl) (pS_s (i := j) hj (by decide)) (fun j h => oS_s (by omega) hN6 hB4 (by decide) h) dX4_pass_193 (fun H locs hW => ?_)
                  refine lv_goto (tgt := 245) hx hb dX4_pass_196 (by decide) ?_
                  refine lv_iinc (v := nI (j + 1)) (lv' := [(5, .int (nI (j + 1))), (10, .int (nI (a - 1))), (9, .int (nI (a - 1))), (6, .ref (ad5 (35 + 2 * j))), (4, .int (nI N)), (3, .ref (ad5 33)), (2, .int ((be (8 + 0) 0 + be (8 + 0) 1) + be (8 + 0) 2)), (1, .int (nI g)), (0, .ref (ad5 28))]) hx hb dX4_pass_245 hl (k := 3) rfl (nI_1 _) (by decide) rfl (fun ls hl => ?_)
                  refine lv_goto (tgt := 30) hx hb dX4_pass_248 (by decide) ?_
                  rw [← hX, zup_zup] at hW
                  rw [trv_land c49 (slide_y hTa ha8 hg9 c62 c73) c122 ((congrFun (zup_o (by omega)) 2).trans ((congrFun zup_k 2).trans up_s)) (by omega), ← hT] at hW
                  refine W.widen (k := 2 * (j + 1)) (n := 16 * (j + 1)) (by omega) (by omega) ?_
                  exact ih (j + 1) ad5 H locs ls (by omega) (fun k hk => (had5 k (hk j (by omega))).trans ((had4 k (hk j (by omega))).trans (had1 k hk))) hW (lv_sub hl [0, 4, 5, 6, 7, 8] rfl)
                | succ kr ihq =>
                  intro q H locs ls hjkq hW hl
                  have hjq : q < (a - 1) := by omega
                  refine lv_iload hx hb dX4_pass_149 (lv_at hl 0 rfl) ?_
                  refine lv_iload hx hb dX4_pass_151 (lv_at hl 1 rfl) ?_
                  refine lv_icmp_ge (tgt := 183) hx hb dX4_pass_153 (by decide) (fun h => absurd h (nI_ge hjq (by omega))) (fun _ => ?_)
                  refine lv_aload hx hb dX4_pass_156 (lv_at hl 2 rfl) ?_
                  refine lv_iload hx hb dX4_pass_158 (lv_at hl 0 rfl) ?_
                  refine z_ald S hE hW (by omega) (sW_sal hj ((congrFun (unlS_o (k := 10 + j) (by omega) q) 2).trans hXb) (by omega)) q rfl (by omega) (by omega) (v := X (17 + j) q) (congrFun (unlS_o (k := 17 + j) (by omega) q) q) dX4_pass_160 ?_
                  refine lv_istore (lv' := [(11, .int (X (17 + j) q)), (10, .int (nI q)), (9, .int (nI (a - 1))), (8, .ref (ad4 (36 + 2 * j))), (6, .ref (ad4 (35 + 2 * j))), (5, .int (nI j)), (4, .int (nI N)), (3, .ref (ad4 33)), (2, .int ((be (8 + 0) 0 + be (8 + 0) 1) + be (8 + 0) 2)), (1, .int (nI g)), (0, .ref (ad4 28))]) hx hb dX4_pass_161 hl (by decide) rfl (fun ls hl => ?_)
                  refine lv_aload_n hx hb dX4_pass_163 rfl (lv_at hl 10 rfl) ?_
                  refine z_get (C := RX4) (T := TX4) (N := 9) (ci := 4) S hE hW hi4 rfl (by omega) sW_28 5 (by decide) rfl f30 (v := .ref (ad4 32)) rfl dX4_pass_164 ?_
                  refine lv_iload hx hb dX4_pass_167 (lv_at hl 0 rfl) ?_
                  refine z_pSN (As := [.int (X (17 + j) q)]) (rest := [.ref (ad4 32)]) S hE hW (cL_kind_ok l (X (17 + j) q)) (⟨va_cnB 1 hts gX4_pass_L_kind_n66 rfl rfl rfl (hE.1.2.1.at 7 rfl) in_L (by decide +kernel) ⟨Nat.le_of_ble_eq_true rfl, Nat.le_of_ble_eq_true rfl⟩, stt_L_kind, trivial⟩) rfl hl.1 rfl (Nat.le_of_ble_eq_true rfl) dX4_pass_169 ⟨(by dsimp only; omega), (by dsimp only; omega)⟩ (fun H locs hW => ?_)
                  refine lv_dup2_11 hx hb dX4_pass_172 rfl rfl ?_
                  refine z_ald S hE hW (by omega) sW_32 (knN (X (17 + j) q)) (knd_nI _) (knN_lt _) (by decide) (v := (unlS X j 0 q) (8 + 0) (knN (X (17 + j) q))) rfl dX4_pass_173 ?_
                  refine lv_iconst (v := 1) hx hb dX4_pass_174 (by decide) ?_
                  refine lv_iadd hx hb dX4_pass_175 ?_
                  refine z_ast (ce' := sW cy ad4 N B al (zup (unlS X j 0 q) (8 + 0) (knN (X (17 + j) q)) ((unlS X j 0 q) (8 + 0) (knN (X (17 + j) q)) + 1)) ex) S hE hW (by omega) sW_32 (knN (X (17 + j) q)) (knd_nI _) (knN_lt _) (by decide) pS_8 (fun j h => oS_8 h) dX4_pass_176 (fun H locs hW => ?_)
                  refine lv_iinc (v := nI (q + 1)) (lv' := [(10, .int (nI (q + 1))), (11, .int (X (17 + j) q)), (9, .int (nI (a - 1))), (8, .ref (ad4 (36 + 2 * j))), (6, .ref (ad4 (35 + 2 * j))), (5, .int (nI j)), (4, .int (nI N)), (3, .ref (ad4 33)), (2, .int ((be (8 + 0) 0 + be (8 + 0) 1) + be (8 + 0) 2)), (1, .int (nI g)), (0, .ref (ad4 28))]) hx hb dX4_pass_177 hl (k := 1) rfl (nI_1 _) (by decide) rfl (fun ls hl => ?_)
                  refine lv_goto (tgt := 149) hx hb dX4_pass_180 (by decide) ?_
                  exact ihq (q + 1) H locs ls (by omega) hW (lv_sub hl [0, 2, 3, 4, 5, 6, 7, 8, 9, 10] rfl)
              exact L149 ((a - 1)) 0 _ _ ls (by omega) hW (lv_sub hl [0, 1, 2, 4, 5, 6, 7, 8, 9, 10] rfl)
            · refine lv_goto (tgt := 245) hx hb dX4_pass_125 (by decide) ?_
              refine lv_iinc (v := nI (j + 1)) (lv' := [(5, .int (nI (j + 1))), (7, .int (nI (a - 1))), (6, .ref (ad4 (35 + 2 * j))), (4, .int (nI N)), (3, .ref (ad4 33)), (2, .int ((be (8 + 0) 0 + be (8 + 0) 1) + be (8 + 0) 2)), (1, .int (nI g)), (0, .ref (ad4 28))]) hx hb dX4_pass_245 hl (k := 2) rfl (nI_1 _) (by decide) rfl (fun ls hl => ?_)
              refine lv_goto (tgt := 30) hx hb dX4_pass_248 (by decide) ?_
              rw [trv_stay c49 (slide_y hTa ha8 hg9 c62 c73) c122, ← hT] at hW
              refine W.widen (k := 2 * (j + 1)) (n := 16 * (j + 1)) (by omega) (by omega) ?_
              exact ih (j + 1) ad4 H locs ls (by omega) (fun k hk => (had4 k (hk j (by omega))).trans (had1 k hk)) hW (lv_sub hl [0, 3, 4, 5, 6, 7] rfl)
  exact L30 (N) 0 ad _ _ ls (by omega) (fun _ _ => rfl) hW (lv_sub hl [0, 1, 2, 3, 4, 5] rfl)
