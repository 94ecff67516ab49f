/-! sledges: loops -/
/-- a whole row is written over -/
def zset (al : Nat → Nat → Int32) (k : Nat) (f : Nat → Int32) : Nat → Nat → Int32 := fun a => if a = k then f else al a
theorem zset_k {al : Nat → Nat → Int32} {k : Nat} {f : Nat → Int32} : zset al k f k = f := if_pos rfl
theorem zset_o {al : Nat → Nat → Int32} {k a : Nat} {f : Nat → Int32} (h : a ≠ k) : zset al k f a = al a := if_neg h
section ZQ
variable {cy : Nat → ClassId} {ad : Nat → Nat} {al ta : Nat → Nat → Int32} {ex : Nat → va_E} {f : Nat → Int32}
theorem qC_o {k j : Nat} (h : j ≠ k) : cC cy ad (zset al k f) ex j = cC cy ad al ex j := by
  unfold cC
  rw [zset_o h]
theorem qC_hs {i : Nat} (h : i < 2) : cC cy ad (zset al (8 + i) f) ex (8 + i) = .inl (cy 0, 3, .inl f) := by rw [cC_hs h, zset_k]
theorem qC_w {i : Nat} (h : i < 7) : cC cy ad (zset al (17 + i) f) ex (17 + i) = .inl (cy 0, 8, .inl f) := by rw [cC_w h, zset_k]
end ZQ
section ZD
variable {p : Program} {l : Launch} {e : Env} {R : Room} {s : State} {m : MethodId} {args : Array Value} {below : List Frame} {meth : Method} {c : Code} {H : Heap} {locs : List Loc} {cells slots : Nat} {Q : State → Prop}
variable {cc : ByteArray} {nL : Nat} {Ts : List Cond} {own : String} {pc : Nat} {ls : Array Slot} {rest : List Value} {D : va_G} {n : Nat} {ad cy sa : Nat → Nat} {ce ce' : Nat → va_E} {A : Nat → Prop}
/-- System.arraycopy of the first N ints of a row of the world into another -/
theorem z_copy {k0 k1 n0 n1 N index : Nat} {f g : Nat → Int32} {x : Int32} (S : CallFix p m c cc nL s args Ts own) (hE : ZEnv D cy sa A s) (hW : WS D n ad ce A s.heap H locs) (hz : ls.size = nL) (hk0 : k0 < n) (hk1 : k1 < n) (he0 : ce k0 = .inl (cy 0, n0, .inl f)) (he1 : ce k1 = .inl (cy 0, n1, .inl g)) (hN0 : N ≤ n0) (hN1 : N ≤ n1) (hN : N < 2 ^ 31) (hxN : x = nI N)
    (hlink : (Cond.methodLink own index arraycopyName).before args s = true) (hnat : (Cond.native arraycopyName).before args s = true) (hstat : (Cond.static arraycopyName).before args s = true) (hini : (Cond.initialized "java/lang/System").before args s = true) (hR : 1 ≤ R.frames ∧ (rest.map fun v => v.category).sum + (nativeFrameWords "java/lang/System" "arraycopy" 5 + 11) ≤ R.locals)
    (h1 : ce' k1 = .inl (cy 0, n1, .inl (va_cpy f g 0 0 N))) (h2 : ∀ j, j ≠ k1 → ce' j = ce j) (hdg : decode cc pc = .ok (.invokestatic index, 3))
    (kk : ∀ (H1 : Heap) (locs1 : List Loc), WS D n ad ce' A s.heap H1 locs1 → W p l e R s m args below meth c H1 locs1 cells slots Q (F0 m (pc + 3) ls rest)) : W p l e R s m args below meth c H locs cells slots Q (F0 m pc ls (.int x :: .int 0 :: .ref (ad k1) :: .int 0 :: .ref (ad k0) :: rest)) := by
  obtain ⟨hx, hb, hml, hown, hts⟩ := S
  subst hxN
  have hc : (nI N).toNatClampNeg = N := nI_clamp hN
  have h0 : (0 : Int32).toNatClampNeg = 0 := by decide
  refine va_copyi (D := D) hx hb (by rw [hml, hz]) hown hlink hnat hstat hini hE.1.1 hW.1 hW.2.1 hW.2.2 k0 k1 0 0 (by rw [wL_get hk0, he0]) (by rw [wL_get hk1, he1]) rfl rfl rfl (by decide) (by decide) (nI_pos hN) (by rw [hc, h0]; omega) (by rw [hc, h0]; omega) (fun i _ => rfl) hR.1 hR.2 hdg (fun H1 locs1 hP hD hS => ?_)
  rw [hc, h0, wL_set h1 h2] at hP hD
  exact kk H1 locs1 ⟨hP, hD, hS⟩
end ZD
theorem slideS_ab {al : Nat → Nat → Int32} {i sh a : Nat} {g : Int32} (hsh : sh < 2) (ha : al (10 + i) 2 = nI a) (ha8 : a ≤ 8) : ∃ b, b ≤ a ∧ slideS al i sh g (10 + i) 2 = nI b := by
  unfold slideS
  by_cases h : ¬ al (10 + i) 2 ≤ 0 ∧ ¬ g ≤ 4 + 2 * al (10 + i) 2
  · rw [if_pos h, zup_k, up_n (by decide), zup_o (by omega), zup_k, up_s]
    obtain ⟨q1, q2⟩ := z_pred ha ha8 h.1
    exact ⟨a - 1, by omega, q1⟩
  · rw [if_neg h, zup_k, up_n (by decide)]
    exact ⟨a, Nat.le_refl a, ha⟩
/-- the sledge i becomes like the sledge k -/
def becomeS (al : Nat → Nat → Int32) (i k : Nat) : Nat → Nat → Int32 := zup (zup (zup (zset (zup al (10 + i) 0 (al (10 + k) 0)) (17 + i) (va_cpy (al (17 + k)) (al (17 + i)) 0 0 8)) (10 + i) 2 (al (10 + k) 2)) (10 + i) 3 (al (10 + k) 3)) (10 + i) 4 (al (10 + k) 4)
def becomeH (al : Nat → Nat → Int32) (i k : Nat) : Nat → Nat → Int32 := zup (zset al (8 + i) (va_cpy (al (8 + k)) (al (8 + i)) 0 0 3)) (6 + i) 1 (al (6 + k) 1)
set_option maxHeartbeats 4000000 in
set_option maxRecDepth 100000 in
theorem cX2_unload_ok (l : Launch) (D : va_G) (n : Nat) (ad cy sa : Nat → Nat) (sz : Nat) (hn : 28 ≤ n) (al : Nat → Nat → Int32) (ex : Nat → va_E) (i : Nat) (hi : i < 7) (sh : Nat) (hsh : sh < 2) (a : Nat) (ha : al (10 + i) 2 = nI a) (ha8 : a ≤ 8) : Met l yX2_unload wsX2_unload ({ frames := 1, cells := 0, slots := 0, locals := 20 }) (PW D n ad cy sa sz (cC cy ad al ex) [.ref (ad (10 + i)), .ref (ad (6 + sh))]) (QDv D n ad sz (cC cy ad (unloadS al i sh) ex)) 0 0 (Acc n ad sz) := by
  refine zs_met (cc := cX2_unload) (maxL := 3) (ret := none) (own := RX2) (by decide) rfl rfl (Nat.le_of_ble_eq_true rfl) ?_
  intro p e s m args below meth c ls S hE hW hr hlk hsz hav hl
  subst hsz
  have hx := S.1
  have hb := S.2.1
  have hown := S.2.2.2.1
  have hts := S.2.2.2.2
  have hl : lv_has ls 3 [(0, .ref (ad (10 + i))), (1, .ref (ad (6 + sh)))] := hl
  have f22 := hts (.fieldLink RX2 22 "PumiceSledge$Sledge" "aboard" "I") (by decide +kernel)
  have hi2 : ∀ w ∈ wsX20, w ∈ wsX2_unload := by decide +kernel
  have hi1 : ∀ w ∈ wsX10, w ∈ wsX2_unload := by decide +kernel
  have f9 := hts (.fieldLink RX2 9 "PumiceSledge$Sledge" "weights" "[I") (by decide +kernel)
  have in_X3 := hts (.initialized RX3) (by decide +kernel)
  have stt_X3_kindOf := hts (.static yX3_kindOf) (by decide +kernel)
  refine lv_iconst (v := 0) hx hb dX2_unload_0 (by decide) ?_
  refine lv_istore_n (lv' := [(2, .int 0), (0, .ref (ad (10 + i))), (1, .ref (ad (6 + sh)))]) hx hb dX2_unload_1 rfl hl (by decide) rfl (fun ls hl => ?_)
  have L2 : ∀ (kq j : Nat) (H : Heap) (locs : List Loc) (ls : Array Slot), j + kq = a → WS D n ad (cC cy ad (unlS al i sh j) ex) (Acc n ad s.heap.size) s.heap H locs → lv_has ls 3 [(0, .ref (ad (10 + i))), (1, .ref (ad (6 + sh))), (2, .int (nI j))] → W p l e { frames := 1, cells := 0, slots := 0, locals := 20 } s m args below meth c H locs 0 0 (MQ below (QDv D n ad s.heap.size (cC cy ad (unloadS al i sh) ex)) args s 0 0 (Acc n ad s.heap.size)) (F0 m 2 ls []) := by
    intro kq
    induction kq with
    | zero =>
      intro j H locs ls hjk hW hl
      have hjN : j = a := by omega
      try rw [hjN] at hW
      try rw [hjN] at hl
      refine lv_iload_n hx hb dX2_unload_2 rfl (lv_at hl 2 rfl) ?_
      refine lv_aload_n hx hb dX2_unload_3 rfl (lv_at hl 0 rfl) ?_
      refine z_get (C := RX2) (T := TX2) (N := 5) (ci := 2) S hE hW hi2 rfl (Nat.lt_of_lt_of_le (kC_s hi) hn) (cC_s (i := i) hi) 2 (by decide) rfl f22 (v := .int (nI a)) (congrArg (fun z => some (Value.int z)) ((congrFun (unlS_o (by omega) a) 2).trans ha)) dX2_unload_4 ?_
      refine lv_icmp_ge (tgt := 34) hx hb dX2_unload_7 (by decide) (fun _ => ?_) (fun h => absurd (nI_le (Nat.le_refl a) (by omega)) h)
      refine lv_aload_n hx hb dX2_unload_34 rfl (lv_at hl 0 rfl) ?_
      refine lv_iconst (v := 0) hx hb dX2_unload_35 (by decide) ?_
      refine z_put (ce' := cC cy ad (zup (unlS al i sh a) (10 + i) 2 0) ex) (C := RX2) (T := TX2) (N := 5) (ci := 2) S hE hW hi2 tyX2 tyX2_ok nmX2 rfl (Nat.lt_of_lt_of_le (kC_s hi) hn) (cC_s (i := i) hi) 2 (by decide) rfl f22 rfl rfl (Nat.le_of_ble_eq_true rfl) (pC_s (i := i) hi (by decide)) (fun j h => cC_o h) dX2_unload_36 (fun H locs hW => ?_)
      exact ze_v S hW hr hlk () (congrArg (fun z => cC cy ad z ex) (by unfold unloadS; rw [ha, nI_clamp (by omega)])) trivial (Nat.le_of_ble_eq_true rfl) (Nat.le_of_ble_eq_true rfl) dX2_unload_39
    | succ kq ih =>
      intro j H locs ls hjk hW hl
      have hj : j < a := by omega
      refine lv_iload_n hx hb dX2_unload_2 rfl (lv_at hl 2 rfl) ?_
      refine lv_aload_n hx hb dX2_unload_3 rfl (lv_at hl 0 rfl) ?_
      refine z_get (C := RX2) (T := TX2) (N := 5) (ci := 2) S hE hW hi2 rfl (Nat.lt_of_lt_of_le (kC_s hi) hn) (cC_s (i := i) hi) 2 (by decide) rfl f22 (v := .int (nI a)) (congrArg (fun z => some (Value.int z)) ((congrFun (unlS_o (by omega) j) 2).trans ha)) dX2_unload_4 ?_
      refine lv_icmp_ge (tgt := 34) hx hb dX2_unload_7 (by decide) (fun h => absurd h (nI_ge hj (by omega))) (fun _ => ?_)
      refine lv_aload_n hx hb dX2_unload_10 rfl (lv_at hl 1 rfl) ?_
      refine z_getN (C := RX1) (T := TX1) (N := 2) (ci := 1) S hE hW hi1 rfl (Nat.lt_of_lt_of_le (kC_h hsh) hn) (cC_h (i := sh) hsh) 0 (by decide) rfl 2 rfl (v := .ref (ad (8 + sh))) rfl dX2_unload_11 ?_
      refine lv_aload_n hx hb dX2_unload_14 rfl (lv_at hl 0 rfl) ?_
      refine z_get (C := RX2) (T := TX2) (N := 5) (ci := 2) S hE hW hi2 rfl (Nat.lt_of_lt_of_le (kC_s hi) hn) (cC_s (i := i) hi) 1 (by decide) rfl f9 (v := .ref (ad (17 + i))) rfl dX2_unload_15 ?_
      refine lv_iload_n hx hb dX2_unload_18 rfl (lv_at hl 2 rfl) ?_
      refine z_ald S hE hW (Nat.lt_of_lt_of_le (kC_w hi) hn) (cC_w (i := i) hi) j rfl (by omega) (by decide) (v := al (17 + i) j) (congrFun (unlS_o (by omega) j) j) dX2_unload_19 ?_
      refine z_pSN (As := [.int (al (17 + i) j)]) (rest := [.ref (ad (8 + sh))]) S hE hW (cX3_kindOf_ok l (al (17 + i) j)) (⟨va_cnB 1 hts gX2_unload_X3_kindOf_n32 rfl rfl rfl (hE.1.2.1.at 15 rfl) in_X3 (by decide +kernel) ⟨Nat.le_of_ble_eq_true rfl, Nat.le_of_ble_eq_true rfl⟩, stt_X3_kindOf, trivial⟩) rfl hl.1 rfl (Nat.le_of_ble_eq_true rfl) dX2_unload_20 ⟨Nat.le_of_ble_eq_true rfl, Nat.le_of_ble_eq_true rfl⟩ (fun H locs hW => ?_)
      refine lv_dup2_11 hx hb dX2_unload_23 rfl rfl ?_
      refine z_ald S hE hW (Nat.lt_of_lt_of_le (kC_hs hsh) hn) (cC_hs (i := sh) hsh) (knN (al (17 + i) j)) (knd_nI _) (knN_lt _) (by decide) (v := (unlS al i sh j) (8 + sh) (knN (al (17 + i) j))) rfl dX2_unload_24 ?_
      refine lv_iconst (v := 1) hx hb dX2_unload_25 (by decide) ?_
      refine lv_iadd hx hb dX2_unload_26 ?_
      refine z_ast (ce' := cC cy ad (zup (unlS al i sh j) (8 + sh) (knN (al (17 + i) j)) ((unlS al i sh j) (8 + sh) (knN (al (17 + i) j)) + 1)) ex) S hE hW (Nat.lt_of_lt_of_le (kC_hs hsh) hn) (cC_hs (i := sh) hsh) (knN (al (17 + i) j)) (knd_nI _) (knN_lt _) (by decide) (pC_hs (i := sh) hsh) (fun j h => cC_o h) dX2_unload_27 (fun H locs hW => ?_)
      refine lv_iinc (v := nI (j + 1)) (lv' := [(2, .int (nI (j + 1))), (0, .ref (ad (10 + i))), (1, .ref (ad (6 + sh)))]) hx hb dX2_unload_28 hl (k := 2) rfl (nI_1 _) (by decide) rfl (fun ls hl => ?_)
      refine lv_goto (tgt := 2) hx hb dX2_unload_31 (by decide) ?_
      exact ih (j + 1) H locs ls (by omega) hW (lv_sub hl [1, 2, 0] rfl)
  exact L2 (a) 0 _ _ ls (by omega) hW (lv_sub hl [1, 2, 0] rfl)
set_option maxHeartbeats 4000000 in
set_option maxRecDepth 100000 in
theorem cX2_weightAboard_ok (l : Launch) (D : va_G) (n : Nat) (ad cy sa : Nat → Nat) (sz : Nat) (hn : 28 ≤ n) (al : Nat → Nat → Int32) (ex : Nat → va_E) (i : Nat) (hi : i < 7) (a : Nat) (ha : al (10 + i) 2 = nI a) (ha8 : a ≤ 8) : Met l yX2_weightAboard wsX2_weightAboard ({ frames := 0, cells := 0, slots := 0, locals := 0 }) (PW D n ad cy sa sz (cC cy ad al ex) [.ref (ad (10 + i))]) (QDi D n ad sz (sumI (al (17 + i)) a) (cC cy ad al ex)) 0 0 (Acc n ad sz) := by
  refine zs_met (cc := cX2_weightAboard) (maxL := 3) (ret := (some .int)) (own := RX2) (by decide) rfl rfl (Nat.le_of_ble_eq_true rfl) ?_
  intro p e s m args below meth c ls S hE hW hr hlk hsz hav hl
  subst hsz
  have hx := S.1
  have hb := S.2.1
  have hown := S.2.2.2.1
  have hts := S.2.2.2.2
  have hl : lv_has ls 3 [(0, .ref (ad (10 + i)))] := hl
  have f22 := hts (.fieldLink RX2 22 "PumiceSledge$Sledge" "aboard" "I") (by decide +kernel)
  have hi2 : ∀ w ∈ wsX20, w ∈ wsX2_weightAboard := by decide +kernel
  have f9 := hts (.fieldLink RX2 9 "PumiceSledge$Sledge" "weights" "[I") (by decide +kernel)
  refine lv_iconst (v := 0) hx hb dX2_weightAboard_0 (by decide) ?_
  refine lv_istore_n (lv' := [(1, .int 0), (0, .ref (ad (10 + i)))]) hx hb dX2_weightAboard_1 rfl hl (by decide) rfl (fun ls hl => ?_)
  refine lv_iconst (v := 0) hx hb dX2_weightAboard_2 (by decide) ?_
  refine lv_istore_n (lv' := [(2, .int 0), (1, .int 0), (0, .ref (ad (10 + i)))]) hx hb dX2_weightAboard_3 rfl hl (by decide) rfl (fun ls hl => ?_)
  have L4 : ∀ (kq j : Nat) (H : Heap) (locs : List Loc) (ls : Array Slot), j + kq = a → WS D n ad (cC cy ad al ex) (Acc n ad s.heap.size) s.heap H locs → lv_has ls 3 [(0, .ref (ad (10 + i))), (1, .int (sumI (al (17 + i)) j)), (2, .int (nI j))] → W p l e { frames := 0, cells := 0, slots := 0, locals := 0 } s m args below meth c H locs 0 0 (MQ below (QDi D n ad s.heap.size (sumI (al (17 + i)) a) (cC cy ad al ex)) args s 0 0 (Acc n ad s.heap.size)) (F0 m 4 ls []) := by
    intro kq
    induction kq with
    | zero =>
      intro j H locs ls hjk hW hl
      have hjN : j = a := by omega
      try rw [hjN] at hW
      try rw [hjN] at hl
      refine lv_iload_n hx hb dX2_weightAboard_4 rfl (lv_at hl 2 rfl) ?_
      refine lv_aload_n hx hb dX2_weightAboard_5 rfl (lv_at hl 0 rfl) ?_
      refine z_get (C := RX2) (T := TX2) (N := 5) (ci := 2) S hE hW hi2 rfl (Nat.lt_of_lt_of_le (kC_s hi) hn) (cC_s (i := i) hi) 2 (by decide) rfl f22 (v := .int (nI a)) (congrArg (fun z => some (Value.int z)) (ha)) dX2_weightAboard_6 ?_
      refine lv_icmp_ge (tgt := 27) hx hb dX2_weightAboard_9 (by decide) (fun _ => ?_) (fun h => absurd (nI_le (Nat.le_refl a) (by omega)) h)
      refine lv_iload_n hx hb dX2_weightAboard_27 rfl (lv_at hl 1 rfl) ?_
      exact ze_i S hW hr hlk () rfl rfl (Nat.le_of_ble_eq_true rfl) (Nat.le_of_ble_eq_true rfl) dX2_weightAboard_28
    | succ kq ih =>
      intro j H locs ls hjk hW hl
      have hj : j < a := by omega
      refine lv_iload_n hx hb dX2_weightAboard_4 rfl (lv_at hl 2 rfl) ?_
      refine lv_aload_n hx hb dX2_weightAboard_5 rfl (lv_at hl 0 rfl) ?_
      refine z_get (C := RX2) (T := TX2) (N := 5) (ci := 2) S hE hW hi2 rfl (Nat.lt_of_lt_of_le (kC_s hi) hn) (cC_s (i := i) hi) 2 (by decide) rfl f22 (v := .int (nI a)) (congrArg (fun z => some (Value.int z)) (ha)) dX2_weightAboard_6 ?_
      refine lv_icmp_ge (tgt := 27) hx hb dX2_weightAboard_9 (by decide) (fun h => absurd h (nI_ge hj (by omega))) (fun _ => ?_)
      refine lv_iload_n hx hb dX2_weightAboard_12 rfl (lv_at hl 1 rfl) ?_
      refine lv_aload_n hx hb dX2_weightAboard_13 rfl (lv_at hl 0 rfl) ?_
      refine z_get (C := RX2) (T := TX2) (N := 5) (ci := 2) S hE hW hi2 rfl (Nat.lt_of_lt_of_le (kC_s hi) hn) (cC_s (i := i) hi) 1 (by decide) rfl f9 (v := .ref (ad (17 + i))) rfl dX2_weightAboard_14 ?_
      refine lv_iload_n hx hb dX2_weightAboard_17 rfl (lv_at hl 2 rfl) ?_
      refine z_ald S hE hW (Nat.lt_of_lt_of_le (kC_w hi) hn) (cC_w (i := i) hi) j rfl (by omega) (by decide) (v := al (17 + i) j) rfl dX2_weightAboard_18 ?_
      refine lv_iadd hx hb dX2_weightAboard_19 ?_
      refine lv_istore_n (lv' := [(1, .int (sumI (al (17 + i)) j + al (17 + i) j)), (0, .ref (ad (10 + i))), (2, .int (nI j))]) hx hb dX2_weightAboard_20 rfl hl (by decide) rfl (fun ls hl => ?_)
      refine lv_iinc (v := nI (j + 1)) (lv' := [(2, .int (nI (j + 1))), (1, .int (sumI (al (17 + i)) j + al (17 + i) j)), (0, .ref (ad (10 + i)))]) hx hb dX2_weightAboard_21 hl (k := 2) rfl (nI_1 _) (by decide) rfl (fun ls hl => ?_)
      refine lv_goto (tgt := 4) hx hb dX2_weightAboard_24 (by decide) ?_
      exact ih (j + 1) H locs ls (by omega) hW (lv_sub hl [2, 1, 0] rfl)
  exact L4 (a) 0 _ _ ls (by omega) hW (lv_sub hl [2, 1, 0] rfl)
set_option maxHeartbeats 4000000 in
set_option maxRecDepth 100000 in
theorem cX2_comeDown_ok (l : Launch) (D : va_G) (n : Nat) (ad cy sa : Nat → Nat) (sz : Nat) (hn : 28 ≤ n) (al : Nat → Nat → Int32) (ex : Nat → va_E) (i : Nat) (hi : i < 7) (sh : Nat) (hsh : sh < 2) (a : Nat) (ha : al (10 + i) 2 = nI a) (ha8 : a ≤ 8) (g : Int32) : Met l yX2_comeDown wsX2_comeDown ({ frames := 2, cells := 0, slots := 0, locals := 60 }) (PW D n ad cy sa sz (cC cy ad al ex) [.ref (ad (10 + i)), .int g, .ref (ad (6 + sh))]) (QDv D n ad sz (cC cy ad (comeDownS al i sh g) ex)) 0 0 (Acc n ad sz) := by
  refine zs_met (cc := cX2_comeDown) (maxL := 3) (ret := none) (own := RX2) (by decide) rfl rfl (Nat.le_of_ble_eq_true rfl) ?_
  intro p e s m args below meth c ls S hE hW hr hlk hsz hav hl
  subst hsz
  have hx := S.1
  have hb := S.2.1
  have hown := S.2.2.2.1
  have hts := S.2.2.2.2
  have hl : lv_has ls 3 [(0, .ref (ad (10 + i))), (1, .int g), (2, .ref (ad (6 + sh)))] := hl
  have f22 := hts (.fieldLink RX2 22 "PumiceSledge$Sledge" "aboard" "I") (by decide +kernel)
  have hi2 : ∀ w ∈ wsX20, w ∈ wsX2_comeDown := by decide +kernel
  have f15 := hts (.fieldLink RX2 15 "PumiceSledge$Sledge" "height" "I") (by decide +kernel)
  have l54 := hts (.methodLink RX2 54 Lib.Math.max.name) (by decide +kernel)
  have ls_max := hts (.static Lib.Math.max.name) (by decide +kernel)
  have li_Math := hts (.initialized "java/lang/Math") (by decide +kernel)
  have lc_max := hts (.code Lib.Math.max.name Lib.Math.max.code 2 (some .int)) (by decide +kernel)
  have f19 := hts (.fieldLink RX2 19 "PumiceSledge$Sledge" "course" "I") (by decide +kernel)
  have hi1 : ∀ w ∈ wsX10, w ∈ wsX2_comeDown := by decide +kernel
  refine lv_aload_n hx hb dX2_comeDown_0 rfl (lv_at hl 0 rfl) ?_
  refine z_get (C := RX2) (T := TX2) (N := 5) (ci := 2) S hE hW hi2 rfl (Nat.lt_of_lt_of_le (kC_s hi) hn) (cC_s (i := i) hi) 2 (by decide) rfl f22 (v := .int (al (10 + i) 2)) rfl dX2_comeDown_1 ?_
  refine lv_if_le (tgt := 39) hx hb dX2_comeDown_4 (by decide) (fun c4 => ?_) (fun c4 => ?_)
  · refine lv_aload_n hx hb dX2_comeDown_39 rfl (lv_at hl 0 rfl) ?_
    refine lv_iconst (v := 0) hx hb dX2_comeDown_40 (by decide) ?_
    refine lv_aload_n hx hb dX2_comeDown_41 rfl (lv_at hl 0 rfl) ?_
    refine z_get (C := RX2) (T := TX2) (N := 5) (ci := 2) S hE hW hi2 rfl (Nat.lt_of_lt_of_le (kC_s hi) hn) (cC_s (i := i) hi) 3 (by decide) rfl f15 (v := .int (al (10 + i) 3)) rfl dX2_comeDown_42 ?_
    refine lv_iconst (v := 4) hx hb dX2_comeDown_45 (by decide) ?_
    refine lv_aload_n hx hb dX2_comeDown_46 rfl (lv_at hl 0 rfl) ?_
    refine z_get (C := RX2) (T := TX2) (N := 5) (ci := 2) S hE hW hi2 rfl (Nat.lt_of_lt_of_le (kC_s hi) hn) (cC_s (i := i) hi) 2 (by decide) rfl f22 (v := .int (al (10 + i) 2)) rfl dX2_comeDown_47 ?_
    refine lv_iconst (v := 3) hx hb dX2_comeDown_50 (by decide) ?_
    refine lv_idiv hx hb dX2_comeDown_51 (by decide) ?_
    refine lv_isub hx hb dX2_comeDown_52 ?_
    refine lv_iload_n hx hb dX2_comeDown_53 rfl (lv_at hl 1 rfl) ?_
    refine lv_iconst (v := 2) hx hb dX2_comeDown_54 (by decide) ?_
    refine lv_idiv hx hb dX2_comeDown_55 (by decide) ?_
    refine lv_iadd hx hb dX2_comeDown_56 ?_
    refine lv_isub hx hb dX2_comeDown_57 ?_
    refine z_mmax S hl.1 l54 ls_max li_Math lc_max ⟨Nat.le_of_ble_eq_true rfl, Nat.le_of_ble_eq_true rfl, Nat.le_of_ble_eq_true rfl, Nat.le_of_ble_eq_true rfl⟩ dX2_comeDown_58 (v := zmx 0 (al (10 + i) 3 - ((4 - (al (10 + i) 2 / 3)) + (g / 2)))) rfl ?_
    refine z_put (ce' := cC cy ad (zup al (10 + i) 3 (zmx 0 (al (10 + i) 3 - ((4 - (al (10 + i) 2 / 3)) + (g / 2))))) ex) (C := RX2) (T := TX2) (N := 5) (ci := 2) S hE hW hi2 tyX2 tyX2_ok nmX2 rfl (Nat.lt_of_lt_of_le (kC_s hi) hn) (cC_s (i := i) hi) 3 (by decide) rfl f15 rfl rfl (Nat.le_of_ble_eq_true rfl) (pC_s (i := i) hi (by decide)) (fun j h => cC_o h) dX2_comeDown_61 (fun H locs hW => ?_)
    have hsl : (zup al (10 + i) 3 (zmx 0 (al (10 + i) 3 - ((4 - (al (10 + i) 2 / 3)) + (g / 2))))) = slideS al i sh g := by unfold slideS; rw [if_neg (fun h => h.1 c4)]
    rw [hsl] at hW
    refine lv_aload_n hx hb dX2_comeDown_64 rfl (lv_at hl 0 rfl) ?_
    refine z_get (C := RX2) (T := TX2) (N := 5) (ci := 2) S hE hW hi2 rfl (Nat.lt_of_lt_of_le (kC_s hi) hn) (cC_s (i := i) hi) 3 (by decide) rfl f15 (v := .int ((slideS al i sh g) (10 + i) 3)) rfl dX2_comeDown_65 ?_
    refine lv_if_ne (tgt := 81) hx hb dX2_comeDown_68 (by decide) (fun c68 => ?_) (fun c68 => ?_)
    · exact ze_v S hW hr hlk () (congrArg (fun z => cC cy ad z ex) (by unfold comeDownS; rw [if_neg c68])) trivial (Nat.le_of_ble_eq_true rfl) (Nat.le_of_ble_eq_true rfl) dX2_comeDown_81
    · obtain ⟨b, hba, hb8⟩ := slideS_ab (g := g) hsh ha ha8
      refine lv_aload_n hx hb dX2_comeDown_71 rfl (lv_at hl 0 rfl) ?_
      refine lv_aload_n hx hb dX2_comeDown_72 rfl (lv_at hl 2 rfl) ?_
      refine z_cVv (As := [.ref (ad (6 + sh))]) (rest := []) (k := (10 + i)) S hE hW (cX2_unload_ok l D n ad cy sa H.size hn (slideS al i sh g) ex i hi sh hsh b hb8 (by omega)) (cwV 1 hts gX2_comeDown_X2_unload rfl rfl rfl (by decide +kernel) ⟨Nat.le_of_ble_eq_true rfl, Nat.le_of_ble_eq_true rfl⟩) (Nat.lt_of_lt_of_le (kC_s hi) hn) (cC_s (i := i) hi) rfl rfl rfl hl.1 rfl (Nat.le_of_ble_eq_true rfl) dX2_comeDown_73 ⟨Nat.le_of_ble_eq_true rfl, Nat.le_of_ble_eq_true rfl⟩ (fun _ H locs _ hW => ?_)
      refine lv_aload_n hx hb dX2_comeDown_76 rfl (lv_at hl 0 rfl) ?_
      refine lv_iconst (v := 2) hx hb dX2_comeDown_77 (by decide) ?_
      refine z_put (ce' := cC cy ad (zup (unloadS (slideS al i sh g) i sh) (10 + i) 4 2) ex) (C := RX2) (T := TX2) (N := 5) (ci := 2) S hE hW hi2 tyX2 tyX2_ok nmX2 rfl (Nat.lt_of_lt_of_le (kC_s hi) hn) (cC_s (i := i) hi) 4 (by decide) rfl f19 rfl rfl (Nat.le_of_ble_eq_true rfl) (pC_s (i := i) hi (by decide)) (fun j h => cC_o h) dX2_comeDown_78 (fun H locs hW => ?_)
      exact ze_v S hW hr hlk () (congrArg (fun z => cC cy ad z ex) (by unfold comeDownS; rw [if_pos c68])) trivial (Nat.le_of_ble_eq_true rfl) (Nat.le_of_ble_eq_true rfl) dX2_comeDown_81
  · refine lv_iload_n hx hb dX2_comeDown_7 rfl (lv_at hl 1 rfl) ?_
    refine lv_iconst (v := 4) hx hb dX2_comeDown_8 (by decide) ?_
    refine lv_iconst (v := 2) hx hb dX2_comeDown_9 (by decide) ?_
    refine lv_aload_n hx hb dX2_comeDown_10 rfl (lv_at hl 0 rfl) ?_
    refine z_get (C := RX2) (T := TX2) (N := 5) (ci := 2) S hE hW hi2 rfl (Nat.lt_of_lt_of_le (kC_s hi) hn) (cC_s (i := i) hi) 2 (by decide) rfl f22 (v := .int (al (10 + i) 2)) rfl dX2_comeDown_11 ?_
    refine lv_imul hx hb dX2_comeDown_14 ?_
    refine lv_iadd hx hb dX2_comeDown_15 ?_
    refine lv_icmp_le (tgt := 39) hx hb dX2_comeDown_16 (by decide) (fun c16 => ?_) (fun c16 => ?_)
    · refine lv_aload_n hx hb dX2_comeDown_39 rfl (lv_at hl 0 rfl) ?_
      refine lv_iconst (v := 0) hx hb dX2_comeDown_40 (by decide) ?_
      refine lv_aload_n hx hb dX2_comeDown_41 rfl (lv_at hl 0 rfl) ?_
      refine z_get (C := RX2) (T := TX2) (N := 5) (ci := 2) S hE hW hi2 rfl (Nat.lt_of_lt_of_le (kC_s hi) hn) (cC_s (i := i) hi) 3 (by decide) rfl f15 (v := .int (al (10 + i) 3)) rfl dX2_comeDown_42 ?_
      refine lv_iconst (v := 4) hx hb dX2_comeDown_45 (by decide) ?_
      refine lv_aload_n hx hb dX2_comeDown_46 rfl (lv_at hl 0 rfl) ?_
      refine z_get (C := RX2) (T := TX2) (N := 5) (ci := 2) S hE hW hi2 rfl (Nat.lt_of_lt_of_le (kC_s hi) hn) (cC_s (i := i) hi) 2 (by decide) rfl f22 (v := .int (al (10 + i) 2)) rfl dX2_comeDown_47 ?_
      refine lv_iconst (v := 3) hx hb dX2_comeDown_50 (by decide) ?_
      refine lv_idiv hx hb dX2_comeDown_51 (by decide) ?_
      refine lv_isub hx hb dX2_comeDown_52 ?_
      refine lv_iload_n hx hb dX2_comeDown_53 rfl (lv_at hl 1 rfl) ?_
      refine lv_iconst (v := 2) hx hb dX2_comeDown_54 (by decide) ?_
      refine lv_idiv hx hb dX2_comeDown_55 (by decide) ?_
      refine lv_iadd hx hb dX2_comeDown_56 ?_
      refine lv_isub hx hb dX2_comeDown_57 ?_
      refine z_mmax S hl.1 l54 ls_max li_Math lc_max ⟨Nat.le_of_ble_eq_true rfl, Nat.le_of_ble_eq_true rfl, Nat.le_of_ble_eq_true rfl, Nat.le_of_ble_eq_true rfl⟩ dX2_comeDown_58 (v := zmx 0 (al (10 + i) 3 - ((4 - (al (10 + i) 2 / 3)) + (g / 2)))) rfl ?_
      refine z_put (ce' := cC cy ad (zup al (10 + i) 3 (zmx 0 (al (10 + i) 3 - ((4 - (al (10 + i) 2 / 3)) + (g / 2))))) ex) (C := RX2) (T := TX2) (N := 5) (ci := 2) S hE hW hi2 tyX2 tyX2_ok nmX2 rfl (Nat.lt_of_lt_of_le (kC_s hi) hn) (cC_s (i := i) hi) 3 (by decide) rfl f15 rfl rfl (Nat.le_of_ble_eq_true rfl) (pC_s (i := i) hi (by decide)) (fun j h => cC_o h) dX2_comeDown_61 (fun H locs hW => ?_)
      have hsl : (zup al (10 + i) 3 (zmx 0 (al (10 + i) 3 - ((4 - (al (10 + i) 2 / 3)) + (g / 2))))) = slideS al i sh g := by unfold slideS; rw [if_neg (fun h => h.2 c16)]
      rw [hsl] at hW
      refine lv_aload_n hx hb dX2_comeDown_64 rfl (lv_at hl 0 rfl) ?_
      refine z_get (C := RX2) (T := TX2) (N := 5) (ci := 2) S hE hW hi2 rfl (Nat.lt_of_lt_of_le (kC_s hi) hn) (cC_s (i := i) hi) 3 (by decide) rfl f15 (v := .int ((slideS al i sh g) (10 + i) 3)) rfl dX2_comeDown_65 ?_
      refine lv_if_ne (tgt := 81) hx hb dX2_comeDown_68 (by decide) (fun c68 => ?_) (fun c68 => ?_)
      · exact ze_v S hW hr hlk () (congrArg (fun z => cC cy ad z ex) (by unfold comeDownS; rw [if_neg c68])) trivial (Nat.le_of_ble_eq_true rfl) (Nat.le_of_ble_eq_true rfl) dX2_comeDown_81
      · obtain ⟨b, hba, hb8⟩ := slideS_ab (g := g) hsh ha ha8
        refine lv_aload_n hx hb dX2_comeDown_71 rfl (lv_at hl 0 rfl) ?_
        refine lv_aload_n hx hb dX2_comeDown_72 rfl (lv_at hl 2 rfl) ?_
        refine z_cVv (As := [.ref (ad (6 + sh))]) (rest := []) (k := (10 + i)) S hE hW (cX2_unload_ok l D n ad cy sa H.size hn (slideS al i sh g) ex i hi sh hsh b hb8 (by omega)) (cwV 1 hts gX2_comeDown_X2_unload rfl rfl rfl (by decide +kernel) ⟨Nat.le_of_ble_eq_true rfl, Nat.le_of_ble_eq_true rfl⟩) (Nat.lt_of_lt_of_le (kC_s hi) hn) (cC_s (i := i) hi) rfl rfl rfl hl.1 rfl (Nat.le_of_ble_eq_true rfl) dX2_comeDown_73 ⟨Nat.le_of_ble_eq_true rfl, Nat.le_of_ble_eq_true rfl⟩ (fun _ H locs _ hW => ?_)
        refine lv_aload_n hx hb dX2_comeDown_76 rfl (lv_at hl 0 rfl) ?_
        refine lv_iconst (v := 2) hx hb dX2_comeDown_77 (by decide) ?_
        refine z_put (ce' := cC cy ad (zup (unloadS (slideS al i sh g) i sh) (10 + i) 4 2) ex) (C := RX2) (T := TX2) (N := 5) (ci := 2) S hE hW hi2 tyX2 tyX2_ok nmX2 rfl (Nat.lt_of_lt_of_le (kC_s hi) hn) (cC_s (i := i) hi) 4 (by decide) rfl f19 rfl rfl (Nat.le_of_ble_eq_true rfl) (pC_s (i := i) hi (by decide)) (fun j h => cC_o h) dX2_comeDown_78 (fun H locs hW => ?_)
        exact ze_v S hW hr hlk () (congrArg (fun z => cC cy ad z ex) (by unfold comeDownS; rw [if_pos c68])) trivial (Nat.le_of_ble_eq_true rfl) (Nat.le_of_ble_eq_true rfl) dX2_comeDown_81
    · refine lv_aload_n hx hb dX2_comeDown_19 rfl (lv_at hl 0 rfl) ?_
      refine lv_dup hx hb dX2_comeDown_20 rfl ?_
      refine z_get (C := RX2) (T := TX2) (N := 5) (ci := 2) S hE hW hi2 rfl (Nat.lt_of_lt_of_le (kC_s hi) hn) (cC_s (i := i) hi) 2 (by decide) rfl f22 (v := .int (al (10 + i) 2)) rfl dX2_comeDown_21 ?_
      refine lv_iconst (v := 1) hx hb dX2_comeDown_24 (by decide) ?_
      refine lv_isub hx hb dX2_comeDown_25 ?_
      refine z_put (ce' := cC cy ad (zup al (10 + i) 2 (al (10 + i) 2 - 1)) ex) (C := RX2) (T := TX2) (N := 5) (ci := 2) S hE hW hi2 tyX2 tyX2_ok nmX2 rfl (Nat.lt_of_lt_of_le (kC_s hi) hn) (cC_s (i := i) hi) 2 (by decide) rfl f22 rfl rfl (Nat.le_of_ble_eq_true rfl) (pC_s (i := i) hi (by decide)) (fun j h => cC_o h) dX2_comeDown_26 (fun H locs hW => ?_)
      refine lv_aload_n hx hb dX2_comeDown_29 rfl (lv_at hl 2 rfl) ?_
      refine lv_dup hx hb dX2_comeDown_30 rfl ?_
      refine z_getN (C := RX1) (T := TX1) (N := 2) (ci := 1) S hE hW hi1 rfl (Nat.lt_of_lt_of_le (kC_h hsh) hn) (cC_h (i := sh) hsh) 1 (by decide) rfl 3 rfl (v := .int (al (6 + sh) 1)) (congrArg (fun z => some (Value.int z)) (congrFun (zup_o (by omega)) 1)) dX2_comeDown_31 ?_
      refine lv_iconst (v := 1) hx hb dX2_comeDown_34 (by decide) ?_
      refine lv_iadd hx hb dX2_comeDown_35 ?_
      refine z_putN (ce' := cC cy ad (zup (zup al (10 + i) 2 (al (10 + i) 2 - 1)) (6 + sh) 1 (al (6 + sh) 1 + 1)) ex) (C := RX1) (T := TX1) (N := 2) (ci := 1) S hE hW hi1 tyX1 tyX1_ok nmX1 rfl (Nat.lt_of_lt_of_le (kC_h hsh) hn) (cC_h (i := sh) hsh) 1 (by decide) rfl 3 rfl rfl rfl (Nat.le_of_ble_eq_true rfl) (pC_h (i := sh) hsh) (fun j h => cC_o h) dX2_comeDown_36 (fun H locs hW => ?_)
      refine lv_aload_n hx hb dX2_comeDown_39 rfl (lv_at hl 0 rfl) ?_
      refine lv_iconst (v := 0) hx hb dX2_comeDown_40 (by decide) ?_
      refine lv_aload_n hx hb dX2_comeDown_41 rfl (lv_at hl 0 rfl) ?_
      refine z_get (C := RX2) (T := TX2) (N := 5) (ci := 2) S hE hW hi2 rfl (Nat.lt_of_lt_of_le (kC_s hi) hn) (cC_s (i := i) hi) 3 (by decide) rfl f15 (v := .int (al (10 + i) 3)) (congrArg (fun z => some (Value.int z)) ((congrFun (zup_o (by omega)) 3).trans ((congrFun zup_k 3).trans (up_n (by decide))))) dX2_comeDown_42 ?_
      refine lv_iconst (v := 4) hx hb dX2_comeDown_45 (by decide) ?_
      refine lv_aload_n hx hb dX2_comeDown_46 rfl (lv_at hl 0 rfl) ?_
      refine z_get (C := RX2) (T := TX2) (N := 5) (ci := 2) S hE hW hi2 rfl (Nat.lt_of_lt_of_le (kC_s hi) hn) (cC_s (i := i) hi) 2 (by decide) rfl f22 (v := .int (al (10 + i) 2 - 1)) (congrArg (fun z => some (Value.int z)) ((congrFun (zup_o (by omega)) 2).trans ((congrFun zup_k 2).trans up_s))) dX2_comeDown_47 ?_
      refine lv_iconst (v := 3) hx hb dX2_comeDown_50 (by decide) ?_
      refine lv_idiv hx hb dX2_comeDown_51 (by decide) ?_
      refine lv_isub hx hb dX2_comeDown_52 ?_
      refine lv_iload_n hx hb dX2_comeDown_53 rfl (lv_at hl 1 rfl) ?_
      refine lv_iconst (v := 2) hx hb dX2_comeDown_54 (by decide) ?_
      refine lv_idiv hx hb dX2_comeDown_55 (by decide) ?_
      refine lv_iadd hx hb dX2_comeDown_56 ?_
      refine lv_isub hx hb dX2_comeDown_57 ?_
      refine z_mmax S hl.1 l54 ls_max li_Math lc_max ⟨Nat.le_of_ble_eq_true rfl, Nat.le_of_ble_eq_true rfl, Nat.le_of_ble_eq_true rfl, Nat.le_of_ble_eq_true rfl⟩ dX2_comeDown_58 (v := zmx 0 (al (10 + i) 3 - ((4 - ((al (10 + i) 2 - 1) / 3)) + (g / 2)))) rfl ?_
      refine z_put (ce' := cC cy ad (zup (zup (zup al (10 + i) 2 (al (10 + i) 2 - 1)) (6 + sh) 1 (al (6 + sh) 1 + 1)) (10 + i) 3 (zmx 0 (al (10 + i) 3 - ((4 - ((al (10 + i) 2 - 1) / 3)) + (g / 2))))) ex) (C := RX2) (T := TX2) (N := 5) (ci := 2) S hE hW hi2 tyX2 tyX2_ok nmX2 rfl (Nat.lt_of_lt_of_le (kC_s hi) hn) (cC_s (i := i) hi) 3 (by decide) rfl f15 rfl rfl (Nat.le_of_ble_eq_true rfl) (pC_s (i := i) hi (by decide)) (fun j h => cC_o h) dX2_comeDown_61 (fun H locs hW => ?_)
      have hsl : (zup (zup (zup al (10 + i) 2 (al (10 + i) 2 - 1)) (6 + sh) 1 (al (6 + sh) 1 + 1)) (10 + i) 3 (zmx 0 (al (10 + i) 3 - ((4 - ((al (10 + i) 2 - 1) / 3)) + (g / 2))))) = slideS al i sh g := by unfold slideS; rw [if_pos ⟨c4, c16⟩]
      rw [hsl] at hW
      refine lv_aload_n hx hb dX2_comeDown_64 rfl (lv_at hl 0 rfl) ?_
      refine z_get (C := RX2) (T := TX2) (N := 5) (ci := 2) S hE hW hi2 rfl (Nat.lt_of_lt_of_le (kC_s hi) hn) (cC_s (i := i) hi) 3 (by decide) rfl f15 (v := .int ((slideS al i sh g) (10 + i) 3)) rfl dX2_comeDown_65 ?_
      refine lv_if_ne (tgt := 81) hx hb dX2_comeDown_68 (by decide) (fun c68 => ?_) (fun c68 => ?_)
      · exact ze_v S hW hr hlk () (congrArg (fun z => cC cy ad z ex) (by unfold comeDownS; rw [if_neg c68])) trivial (Nat.le_of_ble_eq_true rfl) (Nat.le_of_ble_eq_true rfl) dX2_comeDown_81
      · obtain ⟨b, hba, hb8⟩ := slideS_ab (g := g) hsh ha ha8
        refine lv_aload_n hx hb dX2_comeDown_71 rfl (lv_at hl 0 rfl) ?_
        refine lv_aload_n hx hb dX2_comeDown_72 rfl (lv_at hl 2 rfl) ?_
        refine z_cVv (As := [.ref (ad (6 + sh))]) (rest := []) (k := (10 + i)) S hE hW (cX2_unload_ok l D n ad cy sa H.size hn (slideS al i sh g) ex i hi sh hsh b hb8 (by omega)) (cwV 1 hts gX2_comeDown_X2_unload rfl rfl rfl (by decide +kernel) ⟨Nat.le_of_ble_eq_true rfl, Nat.le_of_ble_eq_true rfl⟩) (Nat.lt_of_lt_of_le (kC_s hi) hn) (cC_s (i := i) hi) rfl rfl rfl hl.1 rfl (Nat.le_of_ble_eq_true rfl) dX2_comeDown_73 ⟨Nat.le_of_ble_eq_true rfl, Nat.le_of_ble_eq_true rfl⟩ (fun _ H locs _ hW => ?_)
        refine lv_aload_n hx hb dX2_comeDown_76 rfl (lv_at hl 0 rfl) ?_
        refine lv_iconst (v := 2) hx hb dX2_comeDown_77 (by decide) ?_
        refine z_put (ce' := cC cy ad (zup (unloadS (slideS al i sh g) i sh) (10 + i) 4 2) ex) (C := RX2) (T := TX2) (N := 5) (ci := 2) S hE hW hi2 tyX2 tyX2_ok nmX2 rfl (Nat.lt_of_lt_of_le (kC_s hi) hn) (cC_s (i := i) hi) 4 (by decide) rfl f19 rfl rfl (Nat.le_of_ble_eq_true rfl) (pC_s (i := i) hi (by decide)) (fun j h => cC_o h) dX2_comeDown_78 (fun H locs hW => ?_)
        exact ze_v S hW hr hlk () (congrArg (fun z => cC cy ad z ex) (by unfold comeDownS; rw [if_pos c68])) trivial (Nat.le_of_ble_eq_true rfl) (Nat.le_of_ble_eq_true rfl) dX2_comeDown_81
set_option maxHeartbeats 4000000 in
set_option maxRecDepth 100000 in
theorem cX2_travel_ok (l : Launch) (D : va_G) (n : Nat) (ad cy sa : Nat → Nat) (sz : Nat) (hn : 28 ≤ n) (al : Nat → Nat → Int32) (ex : Nat → va_E) (i : Nat) (hi : i < 7) (sh : Nat) (hsh : sh < 2) (a : Nat) (ha : al (10 + i) 2 = nI a) (ha8 : a ≤ 8) (g : Int32) : Met l yX2_travel wsX2_travel ({ frames := 3, cells := 0, slots := 0, locals := 82 }) (PW D n ad cy sa sz (cC cy ad al ex) [.ref (ad (10 + i)), .int g, .ref (ad (6 + sh))]) (QDv D n ad sz (cC cy ad (travelS al i sh g) ex)) 0 0 (Acc n ad sz) := by
  refine zs_met (cc := cX2_travel) (maxL := 3) (ret := none) (own := RX2) (by decide) rfl rfl (Nat.le_of_ble_eq_true rfl) ?_
  intro p e s m args below meth c ls S hE hW hr hlk hsz hav hl
  subst hsz
  have hx := S.1
  have hb := S.2.1
  have hown := S.2.2.2.1
  have hts := S.2.2.2.2
  have hl : lv_has ls 3 [(0, .ref (ad (10 + i))), (1, .int g), (2, .ref (ad (6 + sh)))] := hl
  have f19 := hts (.fieldLink RX2 19 "PumiceSledge$Sledge" "course" "I") (by decide +kernel)
  have hi2 : ∀ w ∈ wsX20, w ∈ wsX2_travel := by decide +kernel
  refine lv_aload_n hx hb dX2_travel_0 rfl (lv_at hl 0 rfl) ?_
  refine z_get (C := RX2) (T := TX2) (N := 5) (ci := 2) S hE hW hi2 rfl (Nat.lt_of_lt_of_le (kC_s hi) hn) (cC_s (i := i) hi) 4 (by decide) rfl f19 (v := .int (al (10 + i) 4)) rfl dX2_travel_1 ?_
  refine lv_iconst (v := 1) hx hb dX2_travel_4 (by decide) ?_
  refine lv_icmp_ne (tgt := 17) hx hb dX2_travel_5 (by decide) (fun c5 => ?_) (fun c5 => ?_)
  · refine lv_aload_n hx hb dX2_travel_17 rfl (lv_at hl 0 rfl) ?_
    refine z_get (C := RX2) (T := TX2) (N := 5) (ci := 2) S hE hW hi2 rfl (Nat.lt_of_lt_of_le (kC_s hi) hn) (cC_s (i := i) hi) 4 (by decide) rfl f19 (v := .int (al (10 + i) 4)) rfl dX2_travel_18 ?_
    refine lv_iconst (v := 2) hx hb dX2_travel_21 (by decide) ?_
    refine lv_icmp_ne (tgt := 29) hx hb dX2_travel_22 (by decide) (fun c22 => ?_) (fun c22 => ?_)
    · exact ze_v S hW hr hlk () (congrArg (fun z => cC cy ad z ex) (by unfold travelS; rw [if_neg c5, if_neg c22])) trivial (Nat.le_of_ble_eq_true rfl) (Nat.le_of_ble_eq_true rfl) dX2_travel_29
    · refine lv_aload_n hx hb dX2_travel_25 rfl (lv_at hl 0 rfl) ?_
      refine z_cVv (As := []) (rest := []) (k := (10 + i)) S hE hW (cX2_comeUp_ok l D n ad cy sa s.heap.size hn al ex i hi ) (cwV 0 hts gX2_travel_X2_comeUp rfl rfl rfl (by decide +kernel) ⟨Nat.le_of_ble_eq_true rfl, Nat.le_of_ble_eq_true rfl⟩) (Nat.lt_of_lt_of_le (kC_s hi) hn) (cC_s (i := i) hi) rfl rfl rfl hl.1 rfl (Nat.le_of_ble_eq_true rfl) dX2_travel_26 ⟨Nat.le_of_ble_eq_true rfl, Nat.le_of_ble_eq_true rfl⟩ (fun _ H locs _ hW => ?_)
      exact ze_v S hW hr hlk () (congrArg (fun z => cC cy ad z ex) (by unfold travelS; rw [if_neg c5, if_pos c22])) trivial (Nat.le_of_ble_eq_true rfl) (Nat.le_of_ble_eq_true rfl) dX2_travel_29
  · refine lv_aload_n hx hb dX2_travel_8 rfl (lv_at hl 0 rfl) ?_
    refine lv_iload_n hx hb dX2_travel_9 rfl (lv_at hl 1 rfl) ?_
    refine lv_aload_n hx hb dX2_travel_10 rfl (lv_at hl 2 rfl) ?_
    refine z_cVv (As := [.int g, .ref (ad (6 + sh))]) (rest := []) (k := (10 + i)) S hE hW (cX2_comeDown_ok l D n ad cy sa s.heap.size hn al ex i hi sh hsh a ha ha8 g) (cwV 2 hts gX2_travel_X2_comeDown rfl rfl rfl (by decide +kernel) ⟨Nat.le_of_ble_eq_true rfl, Nat.le_of_ble_eq_true rfl⟩) (Nat.lt_of_lt_of_le (kC_s hi) hn) (cC_s (i := i) hi) rfl rfl rfl hl.1 rfl (Nat.le_of_ble_eq_true rfl) dX2_travel_11 ⟨Nat.le_of_ble_eq_true rfl, Nat.le_of_ble_eq_true rfl⟩ (fun _ H locs _ hW => ?_)
    refine lv_goto (tgt := 29) hx hb dX2_travel_14 (by decide) ?_
    exact ze_v S hW hr hlk () (congrArg (fun z => cC cy ad z ex) (by unfold travelS; rw [if_pos c5])) trivial (Nat.le_of_ble_eq_true rfl) (Nat.le_of_ble_eq_true rfl) dX2_travel_29
set_option maxHeartbeats 4000000 in
set_option maxRecDepth 100000 in
theorem cX2_become_ok (l : Launch) (D : va_G) (n : Nat) (ad cy sa : Nat → Nat) (sz : Nat) (hn : 28 ≤ n) (al : Nat → Nat → Int32) (ex : Nat → va_E) (i : Nat) (hi : i < 7) (k : Nat) (hk : k < 7) (hik : i ≠ k) : Met l yX2_become wsX2_become ({ frames := 1, cells := 0, slots := 0, locals := 60 }) (PW D n ad cy sa sz (cC cy ad al ex) [.ref (ad (10 + i)), .ref (ad (10 + k))]) (QDv D n ad sz (cC cy ad (becomeS al i k) ex)) 0 0 (Acc n ad sz) := by
  refine zs_met (cc := cX2_become) (maxL := 2) (ret := none) (own := RX2) (by decide) rfl rfl (Nat.le_of_ble_eq_true rfl) ?_
  intro p e s m args below meth c ls S hE hW hr hlk hsz hav hl
  subst hsz
  have hx := S.1
  have hb := S.2.1
  have hown := S.2.2.2.1
  have hts := S.2.2.2.2
  have hl : lv_has ls 2 [(0, .ref (ad (10 + i))), (1, .ref (ad (10 + k)))] := hl
  have f25 := hts (.fieldLink RX2 25 "PumiceSledge$Sledge" "holds" "I") (by decide +kernel)
  have hi2 : ∀ w ∈ wsX20, w ∈ wsX2_become := by decide +kernel
  have f9 := hts (.fieldLink RX2 9 "PumiceSledge$Sledge" "weights" "[I") (by decide +kernel)
  have l36 := hts (.methodLink RX2 36 arraycopyName) (by decide +kernel)
  have ac_nat := hts (.native arraycopyName) (by decide +kernel)
  have ac_st := hts (.static arraycopyName) (by decide +kernel)
  have ac_in := hts (.initialized "java/lang/System") (by decide +kernel)
  have f22 := hts (.fieldLink RX2 22 "PumiceSledge$Sledge" "aboard" "I") (by decide +kernel)
  have f15 := hts (.fieldLink RX2 15 "PumiceSledge$Sledge" "height" "I") (by decide +kernel)
  have f19 := hts (.fieldLink RX2 19 "PumiceSledge$Sledge" "course" "I") (by decide +kernel)
  refine lv_aload_n hx hb dX2_become_0 rfl (lv_at hl 0 rfl) ?_
  refine lv_aload_n hx hb dX2_become_1 rfl (lv_at hl 1 rfl) ?_
  refine z_get (C := RX2) (T := TX2) (N := 5) (ci := 2) S hE hW hi2 rfl (Nat.lt_of_lt_of_le (kC_s hk) hn) (cC_s (i := k) hk) 0 (by decide) rfl f25 (v := .int (al (10 + k) 0)) rfl dX2_become_2 ?_
  refine z_put (ce' := cC cy ad (zup al (10 + i) 0 (al (10 + k) 0)) ex) (C := RX2) (T := TX2) (N := 5) (ci := 2) S hE hW hi2 tyX2 tyX2_ok nmX2 rfl (Nat.lt_of_lt_of_le (kC_s hi) hn) (cC_s (i := i) hi) 0 (by decide) rfl f25 rfl rfl (Nat.le_of_ble_eq_true rfl) (pC_s (i := i) hi (by decide)) (fun j h => cC_o h) dX2_become_5 (fun H locs hW => ?_)
  refine lv_aload_n hx hb dX2_become_8 rfl (lv_at hl 1 rfl) ?_
  refine z_get (C := RX2) (T := TX2) (N := 5) (ci := 2) S hE hW hi2 rfl (Nat.lt_of_lt_of_le (kC_s hk) hn) (cC_s (i := k) hk) 1 (by decide) rfl f9 (v := .ref (ad (17 + k))) rfl dX2_become_9 ?_
  refine lv_iconst (v := 0) hx hb dX2_become_12 (by decide) ?_
  refine lv_aload_n hx hb dX2_become_13 rfl (lv_at hl 0 rfl) ?_
  refine z_get (C := RX2) (T := TX2) (N := 5) (ci := 2) S hE hW hi2 rfl (Nat.lt_of_lt_of_le (kC_s hi) hn) (cC_s (i := i) hi) 1 (by decide) rfl f9 (v := .ref (ad (17 + i))) rfl dX2_become_14 ?_
  refine lv_iconst (v := 0) hx hb dX2_become_17 (by decide) ?_
  refine lv_bipush (v := 8) hx hb dX2_become_18 (by decide) ?_
  refine z_copy (ce' := cC cy ad (zset (zup al (10 + i) 0 (al (10 + k) 0)) (17 + i) (va_cpy ((zup al (10 + i) 0 (al (10 + k) 0)) (17 + k)) ((zup al (10 + i) 0 (al (10 + k) 0)) (17 + i)) 0 0 8)) ex) (N := 8) S hE hW hl.1 (Nat.lt_of_lt_of_le (kC_w hk) hn) (Nat.lt_of_lt_of_le (kC_w hi) hn) (cC_w (i := k) hk) (cC_w (i := i) hi) (by decide) (by decide) (by decide) rfl l36 ac_nat ac_st ac_in ⟨Nat.le_of_ble_eq_true rfl, Nat.le_of_ble_eq_true rfl⟩ (qC_w (i := i) hi) (fun j h => qC_o h) dX2_become_20 (fun H locs hW => ?_)
  refine lv_aload_n hx hb dX2_become_23 rfl (lv_at hl 0 rfl) ?_
  refine lv_aload_n hx hb dX2_become_24 rfl (lv_at hl 1 rfl) ?_
  refine z_get (C := RX2) (T := TX2) (N := 5) (ci := 2) S hE hW hi2 rfl (Nat.lt_of_lt_of_le (kC_s hk) hn) (cC_s (i := k) hk) 2 (by decide) rfl f22 (v := .int (al (10 + k) 2)) (congrArg (fun z => some (Value.int z)) ((congrFun (zset_o (by omega)) 2).trans (congrFun (zup_o (by omega)) 2))) dX2_become_25 ?_
  refine z_put (ce' := cC cy ad (zup (zset (zup al (10 + i) 0 (al (10 + k) 0)) (17 + i) (va_cpy ((zup al (10 + i) 0 (al (10 + k) 0)) (17 + k)) ((zup al (10 + i) 0 (al (10 + k) 0)) (17 + i)) 0 0 8)) (10 + i) 2 (al (10 + k) 2)) ex) (C := RX2) (T := TX2) (N := 5) (ci := 2) S hE hW hi2 tyX2 tyX2_ok nmX2 rfl (Nat.lt_of_lt_of_le (kC_s hi) hn) (cC_s (i := i) hi) 2 (by decide) rfl f22 rfl rfl (Nat.le_of_ble_eq_true rfl) (pC_s (i := i) hi (by decide)) (fun j h => cC_o h) dX2_become_28 (fun H locs hW => ?_)
  refine lv_aload_n hx hb dX2_become_31 rfl (lv_at hl 0 rfl) ?_
  refine lv_aload_n hx hb dX2_become_32 rfl (lv_at hl 1 rfl) ?_
  refine z_get (C := RX2) (T := TX2) (N := 5) (ci := 2) S hE hW hi2 rfl (Nat.lt_of_lt_of_le (kC_s hk) hn) (cC_s (i := k) hk) 3 (by decide) rfl f15 (v := .int (al (10 + k) 3)) (congrArg (fun z => some (Value.int z)) ((congrFun (zup_o (by omega)) 3).trans ((congrFun (zset_o (by omega)) 3).trans (congrFun (zup_o (by omega)) 3)))) dX2_become_33 ?_
  refine z_put (ce' := cC cy ad (zup (zup (zset (zup al (10 + i) 0 (al (10 + k) 0)) (17 + i) (va_cpy ((zup al (10 + i) 0 (al (10 + k) 0)) (17 + k)) ((zup al (10 + i) 0 (al (10 + k) 0)) (17 + i)) 0 0 8)) (10 + i) 2 (al (10 + k) 2)) (10 + i) 3 (al (10 + k) 3)) ex) (C := RX2) (T := TX2) (N := 5) (ci := 2) S hE hW hi2 tyX2 tyX2_ok nmX2 rfl (Nat.lt_of_lt_of_le (kC_s hi) hn) (cC_s (i := i) hi) 3 (by decide) rfl f15 rfl rfl (Nat.le_of_ble_eq_true rfl) (pC_s (i := i) hi (by decide)) (fun j h => cC_o h) dX2_become_36 (fun H locs hW => ?_)
  refine lv_aload_n hx hb dX2_become_39 rfl (lv_at hl 0 rfl) ?_
  refine lv_aload_n hx hb dX2_become_40 rfl (lv_at hl 1 rfl) ?_
  refine z_get (C := RX2) (T := TX2) (N := 5) (ci := 2) S hE hW hi2 rfl (Nat.lt_of_lt_of_le (kC_s hk) hn) (cC_s (i := k) hk) 4 (by decide) rfl f19 (v := .int (al (10 + k) 4)) (congrArg (fun z => some (Value.int z)) ((congrFun (zup_o (by omega)) 4).trans ((congrFun (zup_o (by omega)) 4).trans ((congrFun (zset_o (by omega)) 4).trans (congrFun (zup_o (by omega)) 4))))) dX2_become_41 ?_
  refine z_put (ce' := cC cy ad (zup (zup (zup (zset (zup al (10 + i) 0 (al (10 + k) 0)) (17 + i) (va_cpy ((zup al (10 + i) 0 (al (10 + k) 0)) (17 + k)) ((zup al (10 + i) 0 (al (10 + k) 0)) (17 + i)) 0 0 8)) (10 + i) 2 (al (10 + k) 2)) (10 + i) 3 (al (10 + k) 3)) (10 + i) 4 (al (10 + k) 4)) ex) (C := RX2) (T := TX2) (N := 5) (ci := 2) S hE hW hi2 tyX2 tyX2_ok nmX2 rfl (Nat.lt_of_lt_of_le (kC_s hi) hn) (cC_s (i := i) hi) 4 (by decide) rfl f19 rfl rfl (Nat.le_of_ble_eq_true rfl) (pC_s (i := i) hi (by decide)) (fun j h => cC_o h) dX2_become_44 (fun H locs hW => ?_)
  exact ze_v S hW hr hlk () (congrArg (fun z => cC cy ad z ex) (by unfold becomeS; rw [zup_o (show 17 + k ≠ 10 + i by omega), zup_o (show 17 + i ≠ 10 + i by omega)])) trivial (Nat.le_of_ble_eq_true rfl) (Nat.le_of_ble_eq_true rfl) dX2_become_47
set_option maxHeartbeats 4000000 in
set_option maxRecDepth 100000 in
theorem cX1_become_ok (l : Launch) (D : va_G) (n : Nat) (ad cy sa : Nat → Nat) (sz : Nat) (hn : 28 ≤ n) (al : Nat → Nat → Int32) (ex : Nat → va_E) (sh : Nat) (hsh : sh < 2) (k : Nat) (hk : k < 2) (hik : sh ≠ k) : Met l yX1_become wsX1_become ({ frames := 1, cells := 0, slots := 0, locals := 60 }) (PW D n ad cy sa sz (cC cy ad al ex) [.ref (ad (6 + sh)), .ref (ad (6 + k))]) (QDv D n ad sz (cC cy ad (becomeH al sh k) ex)) 0 0 (Acc n ad sz) := by
  refine zs_met (cc := cX1_become) (maxL := 2) (ret := none) (own := RX1) (by decide) rfl rfl (Nat.le_of_ble_eq_true rfl) ?_
  intro p e s m args below meth c ls S hE hW hr hlk hsz hav hl
  subst hsz
  have hx := S.1
  have hb := S.2.1
  have hown := S.2.2.2.1
  have hts := S.2.2.2.2
  have hl : lv_has ls 2 [(0, .ref (ad (6 + sh))), (1, .ref (ad (6 + k)))] := hl
  have f9 := hts (.fieldLink RX1 9 "PumiceSledge$Shore" "sacks" "[I") (by decide +kernel)
  have hi1 : ∀ w ∈ wsX10, w ∈ wsX1_become := by decide +kernel
  have l15 := hts (.methodLink RX1 15 arraycopyName) (by decide +kernel)
  have ac_nat := hts (.native arraycopyName) (by decide +kernel)
  have ac_st := hts (.static arraycopyName) (by decide +kernel)
  have ac_in := hts (.initialized "java/lang/System") (by decide +kernel)
  have f21 := hts (.fieldLink RX1 21 "PumiceSledge$Shore" "lost" "I") (by decide +kernel)
  refine lv_aload_n hx hb dX1_become_0 rfl (lv_at hl 1 rfl) ?_
  refine z_get (C := RX1) (T := TX1) (N := 2) (ci := 1) S hE hW hi1 rfl (Nat.lt_of_lt_of_le (kC_h hk) hn) (cC_h (i := k) hk) 0 (by decide) rfl f9 (v := .ref (ad (8 + k))) rfl dX1_become_1 ?_
  refine lv_iconst (v := 0) hx hb dX1_become_4 (by decide) ?_
  refine lv_aload_n hx hb dX1_become_5 rfl (lv_at hl 0 rfl) ?_
  refine z_get (C := RX1) (T := TX1) (N := 2) (ci := 1) S hE hW hi1 rfl (Nat.lt_of_lt_of_le (kC_h hsh) hn) (cC_h (i := sh) hsh) 0 (by decide) rfl f9 (v := .ref (ad (8 + sh))) rfl dX1_become_6 ?_
  refine lv_iconst (v := 0) hx hb dX1_become_9 (by decide) ?_
  refine lv_iconst (v := 3) hx hb dX1_become_10 (by decide) ?_
  refine z_copy (ce' := cC cy ad (zset al (8 + sh) (va_cpy (al (8 + k)) (al (8 + sh)) 0 0 3)) ex) (N := 3) S hE hW hl.1 (Nat.lt_of_lt_of_le (kC_hs hk) hn) (Nat.lt_of_lt_of_le (kC_hs hsh) hn) (cC_hs (i := k) hk) (cC_hs (i := sh) hsh) (by decide) (by decide) (by decide) rfl l15 ac_nat ac_st ac_in ⟨Nat.le_of_ble_eq_true rfl, Nat.le_of_ble_eq_true rfl⟩ (qC_hs (i := sh) hsh) (fun j h => qC_o h) dX1_become_11 (fun H locs hW => ?_)
  refine lv_aload_n hx hb dX1_become_14 rfl (lv_at hl 0 rfl) ?_
  refine lv_aload_n hx hb dX1_become_15 rfl (lv_at hl 1 rfl) ?_
  refine z_get (C := RX1) (T := TX1) (N := 2) (ci := 1) S hE hW hi1 rfl (Nat.lt_of_lt_of_le (kC_h hk) hn) (cC_h (i := k) hk) 1 (by decide) rfl f21 (v := .int (al (6 + k) 1)) (congrArg (fun z => some (Value.int z)) (congrFun (zset_o (by omega)) 1)) dX1_become_16 ?_
  refine z_put (ce' := cC cy ad (zup (zset al (8 + sh) (va_cpy (al (8 + k)) (al (8 + sh)) 0 0 3)) (6 + sh) 1 (al (6 + k) 1)) ex) (C := RX1) (T := TX1) (N := 2) (ci := 1) S hE hW hi1 tyX1 tyX1_ok nmX1 rfl (Nat.lt_of_lt_of_le (kC_h hsh) hn) (cC_h (i := sh) hsh) 1 (by decide) rfl f21 rfl rfl (Nat.le_of_ble_eq_true rfl) (pC_h (i := sh) hsh) (fun j h => cC_o h) dX1_become_19 (fun H locs hW => ?_)
  exact ze_v S hW hr hlk () (congrArg (fun z => cC cy ad z ex) (rfl)) trivial (Nat.le_of_ble_eq_true rfl) (Nat.le_of_ble_eq_true rfl) dX1_become_22
