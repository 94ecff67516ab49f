/-! the digest of the sledge side -/
def dg1 (al : Nat → Nat → Int32) : Int64 := mixI (fun q => v_count al (nI q)) 1321 9
def dg2 (al : Nat → Nat → Int32) : Int64 := mixI (al 3) (dg1 al) 8
def dgL (al : Nat → Nat → Int32) (jj : Nat) (d : Int64) : Int64 := mixI (fun q => v_layer al (nI jj) (nI q)) d 4
def dgS (al : Nat → Nat → Int32) (i : Nat) (d : Int64) : Int64 := mixI (al (17 + i)) (mixI (fun q => v_told al (nI i) (nI q)) d 6) (ix (al (10 + i) 2))
def dgB (al : Nat → Nat → Int32) (i : Nat) (d : Int64) : Int64 := mixI (fun q => v_boat al (nI i) (nI q)) d 7
/-- the digest -/
def dig (al : Nat → Nat → Int32) : Int64 := mixI (al (8 + 0)) (foldD (dgB al) (foldD (dgS al) (foldD (dgL al) (dg2 al) 5) (ix (al 0 4))) (ix (al 0 6))) 3
set_option maxHeartbeats 4000000 in
set_option maxRecDepth 100000 in
theorem cX3_digest_ok (l : Launch) (D : va_G) (n : Nat) (ad cy sa : Nat → Nat) (sz : Nat) (hn : 28 ≤ n) (al : Nat → Nat → Int32) (ex : Nat → va_E) (N : Nat) (hN : al 0 4 = nI N) (hN6 : N ≤ 6) (h : Nat) (hh : al 0 8 = nI h) (hh3 : h < 2 ^ 30) (hab : abOK al) (B : Nat) (hB : al 0 6 = nI B) (hB4 : B ≤ 4) : Met l yX3_digest wsX3_digest ({ frames := 8, cells := 0, slots := 0, locals := 168 }) (PW D n ad cy sa sz (cC cy ad al ex) [.ref (ad 0)]) (QDl D n ad sz (dig al) (cC cy ad al ex)) 0 0 (Acc n ad sz) := by
  refine zs_met (cc := cX3_digest) (maxL := 4) (ret := (some .long)) (own := RX3) (by decide) rfl rfl (Nat.le_of_ble_eq_true rfl) ?_
  intro p e s m args below meth c ls S hE hW hr hlk hsz hav hl
  subst hsz
  have hx := S.1
  have hb := S.2.1
  have hown := S.2.2.2.1
  have hts := S.2.2.2.2
  have hl : lv_has ls 4 [(0, .ref (ad 0))] := hl
  have k237 := hts (.constantLong RX3 237 1321) (by decide +kernel)
  have f75 := hts (.fieldLink RX3 75 "PumiceSledge" "sledgeCount" "I") (by decide +kernel)
  have hi3 : ∀ w ∈ wsX30, w ∈ wsX3_digest := by decide +kernel
  have f121 := hts (.fieldLink RX3 121 "PumiceSledge" "boatCount" "I") (by decide +kernel)
  have f34 := hts (.fieldLink RX3 34 "PumiceSledge" "shore" "LPumiceSledge$Shore;") (by decide +kernel)
  have hi1 : ∀ w ∈ wsX10, w ∈ wsX3_digest := by decide +kernel
  have f16 := hts (.fieldLink RX3 16 "PumiceSledge" "gusts" "[I") (by decide +kernel)
  refine lv_ldc2 hx hb hown k237 dX3_digest_0 ?_
  refine lv_lstore_n (lv' := [(1, .long 1321), (0, .ref (ad 0))]) hx hb dX3_digest_3 rfl hl (by decide) rfl (fun ls hl => ?_)
  refine lv_iconst (v := 0) hx hb dX3_digest_4 (by decide) ?_
  refine lv_istore_n (lv' := [(3, .int 0), (1, .long 1321), (0, .ref (ad 0))]) hx hb dX3_digest_5 rfl hl (by decide) rfl (fun ls hl => ?_)
  have L6 : ∀ (kq j : Nat) (H : Heap) (locs : List Loc) (ls : Array Slot), j + kq = 9 → WS D n ad (cC cy ad al ex) (Acc n ad s.heap.size) s.heap H locs → lv_has ls 4 [(0, .ref (ad 0)), (1, .long (mixI (fun q => v_count al (nI q)) 1321 j)), (3, .int (nI j))] → W p l e { frames := 8, cells := 0, slots := 0, locals := 168 } s m args below meth c H locs 0 0 (MQ below (QDl D n ad s.heap.size (dig al) (cC cy ad al ex)) args s 0 0 (Acc n ad s.heap.size)) (F0 m 6 ls []) := by
    intro kq
    induction kq with
    | zero =>
      intro j H locs ls hjk hW hl
      have hjN : j = 9 := by omega
      try rw [hjN] at hW
      try rw [hjN] at hl
      refine lv_iload_n hx hb dX3_digest_6 rfl (lv_at hl 2 rfl) ?_
      refine lv_bipush (v := 9) hx hb dX3_digest_7 (by decide) ?_
      refine lv_icmp_ge (tgt := 28) hx hb dX3_digest_9 (by decide) (fun _ => ?_) (fun h => absurd (by decide) h)
      refine lv_iconst (v := 0) hx hb dX3_digest_28 (by decide) ?_
      refine lv_istore_n (lv' := [(3, .int 0), (0, .ref (ad 0)), (1, .long (mixI (fun q => v_count al (nI q)) 1321 9))]) hx hb dX3_digest_29 rfl hl (by decide) rfl (fun ls hl => ?_)
      have L30 : ∀ (kq j : Nat) (H : Heap) (locs : List Loc) (ls : Array Slot), j + kq = 8 → WS D n ad (cC cy ad al ex) (Acc n ad s.heap.size) s.heap H locs → lv_has ls 4 [(0, .ref (ad 0)), (1, .long (mixI (al 3) (dg1 al) j)), (3, .int (nI j))] → W p l e { frames := 8, cells := 0, slots := 0, locals := 168 } s m args below meth c H locs 0 0 (MQ below (QDl D n ad s.heap.size (dig al) (cC cy ad al ex)) args s 0 0 (Acc n ad s.heap.size)) (F0 m 30 ls []) := by
        intro kq
        induction kq with
        | zero =>
          intro j H locs ls hjk hW hl
          have hjN : j = 8 := by omega
          try rw [hjN] at hW
          try rw [hjN] at hl
          refine lv_iload_n hx hb dX3_digest_30 rfl (lv_at hl 2 rfl) ?_
          refine lv_bipush (v := 8) hx hb dX3_digest_31 (by decide) ?_
          refine lv_icmp_ge (tgt := 53) hx hb dX3_digest_33 (by decide) (fun _ => ?_) (fun h => absurd (by decide) h)
          refine lv_iconst (v := 0) hx hb dX3_digest_53 (by decide) ?_
          refine lv_istore_n (lv' := [(3, .int 0), (0, .ref (ad 0)), (1, .long (mixI (al 3) (dg1 al) 8))]) hx hb dX3_digest_54 rfl hl (by decide) rfl (fun ls hl => ?_)
          have L55 : ∀ (kq j : Nat) (H : Heap) (locs : List Loc) (ls : Array Slot), j + kq = 5 → WS D n ad (cC cy ad al ex) (Acc n ad s.heap.size) s.heap H locs → lv_has ls 4 [(0, .ref (ad 0)), (1, .long (foldD (dgL al) (dg2 al) j)), (3, .int (nI j))] → W p l e { frames := 8, cells := 0, slots := 0, locals := 168 } s m args below meth c H locs 0 0 (MQ below (QDl D n ad s.heap.size (dig al) (cC cy ad al ex)) args s 0 0 (Acc n ad s.heap.size)) (F0 m 55 ls []) := by
            intro kq
            induction kq with
            | zero =>
              intro j H locs ls hjk hW hl
              have hjN : j = 5 := by omega
              try rw [hjN] at hW
              try rw [hjN] at hl
              refine lv_iload_n hx hb dX3_digest_55 rfl (lv_at hl 2 rfl) ?_
              refine lv_iconst (v := 5) hx hb dX3_digest_56 (by decide) ?_
              refine lv_icmp_ge (tgt := 73) hx hb dX3_digest_57 (by decide) (fun _ => ?_) (fun h => absurd (by decide) h)
              refine lv_iconst (v := 0) hx hb dX3_digest_73 (by decide) ?_
              refine lv_istore_n (lv' := [(3, .int 0), (0, .ref (ad 0)), (1, .long (foldD (dgL al) (dg2 al) 5))]) hx hb dX3_digest_74 rfl hl (by decide) rfl (fun ls hl => ?_)
              have L75 : ∀ (kq j : Nat) (H : Heap) (locs : List Loc) (ls : Array Slot), j + kq = N → WS D n ad (cC cy ad al ex) (Acc n ad s.heap.size) s.heap H locs → lv_has ls 4 [(0, .ref (ad 0)), (1, .long (foldD (dgS al) (foldD (dgL al) (dg2 al) 5) j)), (3, .int (nI j))] → W p l e { frames := 8, cells := 0, slots := 0, locals := 168 } s m args below meth c H locs 0 0 (MQ below (QDl D n ad s.heap.size (dig al) (cC cy ad al ex)) args s 0 0 (Acc n ad s.heap.size)) (F0 m 75 ls []) := by
                intro kq
                induction kq with
                | zero =>
                  intro j H locs ls hjk hW hl
                  have hjN : j = N := by omega
                  try rw [hjN] at hW
                  try rw [hjN] at hl
                  refine lv_iload_n hx hb dX3_digest_75 rfl (lv_at hl 2 rfl) ?_
                  refine lv_aload_n hx hb dX3_digest_76 rfl (lv_at hl 0 rfl) ?_
                  refine z_get (C := RX3) (T := TX3) (N := 12) (ci := 3) S hE hW hi3 rfl (Nat.lt_of_lt_of_le (by decide) hn) cC_0 4 (by decide) rfl f75 (v := .int (nI N)) (congrArg (fun z => some (Value.int z)) (hN)) dX3_digest_77 ?_
                  refine lv_icmp_ge (tgt := 96) hx hb dX3_digest_80 (by decide) (fun _ => ?_) (fun h => absurd (nI_le (Nat.le_refl N) (by omega)) h)
                  refine lv_iconst (v := 0) hx hb dX3_digest_96 (by decide) ?_
                  refine lv_istore_n (lv' := [(3, .int 0), (0, .ref (ad 0)), (1, .long (foldD (dgS al) (foldD (dgL al) (dg2 al) 5) N))]) hx hb dX3_digest_97 rfl hl (by decide) rfl (fun ls hl => ?_)
                  have L98 : ∀ (kq j : Nat) (H : Heap) (locs : List Loc) (ls : Array Slot), j + kq = B → WS D n ad (cC cy ad al ex) (Acc n ad s.heap.size) s.heap H locs → lv_has ls 4 [(0, .ref (ad 0)), (1, .long (foldD (dgB al) (foldD (dgS al) (foldD (dgL al) (dg2 al) 5) N) j)), (3, .int (nI j))] → W p l e { frames := 8, cells := 0, slots := 0, locals := 168 } s m args below meth c H locs 0 0 (MQ below (QDl D n ad s.heap.size (dig al) (cC cy ad al ex)) args s 0 0 (Acc n ad s.heap.size)) (F0 m 98 ls []) := by
                    intro kq
                    induction kq with
                    | zero =>
                      intro j H locs ls hjk hW hl
                      have hjN : j = B := by omega
                      try rw [hjN] at hW
                      try rw [hjN] at hl
                      refine lv_iload_n hx hb dX3_digest_98 rfl (lv_at hl 2 rfl) ?_
                      refine lv_aload_n hx hb dX3_digest_99 rfl (lv_at hl 0 rfl) ?_
                      refine z_get (C := RX3) (T := TX3) (N := 12) (ci := 3) S hE hW hi3 rfl (Nat.lt_of_lt_of_le (by decide) hn) cC_0 6 (by decide) rfl f121 (v := .int (nI B)) (congrArg (fun z => some (Value.int z)) (hB)) dX3_digest_100 ?_
                      refine lv_icmp_ge (tgt := 119) hx hb dX3_digest_103 (by decide) (fun _ => ?_) (fun h => absurd (nI_le (Nat.le_refl B) (by omega)) h)
                      refine lv_iconst (v := 0) hx hb dX3_digest_119 (by decide) ?_
                      refine lv_istore_n (lv' := [(3, .int 0), (0, .ref (ad 0)), (1, .long (foldD (dgB al) (foldD (dgS al) (foldD (dgL al) (dg2 al) 5) N) B))]) hx hb dX3_digest_120 rfl hl (by decide) rfl (fun ls hl => ?_)
                      have L121 : ∀ (kq j : Nat) (H : Heap) (locs : List Loc) (ls : Array Slot), j + kq = 3 → WS D n ad (cC cy ad al ex) (Acc n ad s.heap.size) s.heap H locs → lv_has ls 4 [(0, .ref (ad 0)), (1, .long (mixI (al (8 + 0)) (foldD (dgB al) (foldD (dgS al) (foldD (dgL al) (dg2 al) 5) N) B) j)), (3, .int (nI j))] → W p l e { frames := 8, cells := 0, slots := 0, locals := 168 } s m args below meth c H locs 0 0 (MQ below (QDl D n ad s.heap.size (dig al) (cC cy ad al ex)) args s 0 0 (Acc n ad s.heap.size)) (F0 m 121 ls []) := by
                        intro kq
                        induction kq with
                        | zero =>
                          intro j H locs ls hjk hW hl
                          have hjN : j = 3 := by omega
                          try rw [hjN] at hW
                          try rw [hjN] at hl
                          refine lv_iload_n hx hb dX3_digest_121 rfl (lv_at hl 2 rfl) ?_
                          refine lv_iconst (v := 3) hx hb dX3_digest_122 (by decide) ?_
                          refine lv_icmp_ge (tgt := 146) hx hb dX3_digest_123 (by decide) (fun _ => ?_) (fun h => absurd (by decide) h)
                          refine lv_lload_n hx hb dX3_digest_146 rfl (lv_at hl 1 rfl) ?_
                          exact ze_l S hW hr hlk () rfl (by unfold dig; rw [hN, hB, ix_nI (show N < 2 ^ 31 by omega), ix_nI (show B < 2 ^ 31 by omega)]) (Nat.le_of_ble_eq_true rfl) (Nat.le_of_ble_eq_true rfl) dX3_digest_147
                        | succ kq ih =>
                          intro j H locs ls hjk hW hl
                          have hj : j < 3 := by omega
                          refine lv_iload_n hx hb dX3_digest_121 rfl (lv_at hl 2 rfl) ?_
                          refine lv_iconst (v := 3) hx hb dX3_digest_122 (by decide) ?_
                          refine lv_icmp_ge (tgt := 146) hx hb dX3_digest_123 (by decide) (fun h => absurd h (nI_ge (b := 3) hj (by decide))) (fun _ => ?_)
                          refine lv_lload_n hx hb dX3_digest_126 rfl (lv_at hl 1 rfl) ?_
                          refine lv_aload_n hx hb dX3_digest_127 rfl (lv_at hl 0 rfl) ?_
                          refine z_get (C := RX3) (T := TX3) (N := 12) (ci := 3) S hE hW hi3 rfl (Nat.lt_of_lt_of_le (by decide) hn) cC_0 7 (by decide) rfl f34 (v := .ref (ad (6 + 0))) rfl dX3_digest_128 ?_
                          refine z_getN (C := RX1) (T := TX1) (N := 2) (ci := 1) S hE hW hi1 rfl (Nat.lt_of_lt_of_le (kC_h (by decide)) hn) (cC_h (i := 0) (by decide)) 0 (by decide) rfl 1 rfl (v := .ref (ad (8 + 0))) rfl dX3_digest_131 ?_
                          refine lv_iload_n hx hb dX3_digest_134 rfl (lv_at hl 2 rfl) ?_
                          refine z_ald S hE hW (Nat.lt_of_lt_of_le (kC_hs (by decide)) hn) (cC_hs (i := 0) (by decide)) j rfl (by omega) (by decide) (v := al (8 + 0) j) rfl dX3_digest_135 ?_
                          refine z_pSl (As := [.long (mixI (al (8 + 0)) (foldD (dgB al) (foldD (dgS al) (foldD (dgL al) (dg2 al) 5) N) B) j), .int (al (8 + 0) j)]) (rest := []) S hE hW (cX3_mixed_ok l (mixI (al (8 + 0)) (foldD (dgB al) (foldD (dgS al) (foldD (dgL al) (dg2 al) 5) N) B) j) (al (8 + 0) j)) (va_cwS 2 hts gX3_digest_X3_mixed rfl rfl rfl (by decide +kernel) ⟨Nat.le_of_ble_eq_true rfl, Nat.le_of_ble_eq_true rfl⟩) rfl hl.1 rfl (Nat.le_of_ble_eq_true rfl) dX3_digest_136 ⟨Nat.le_of_ble_eq_true rfl, Nat.le_of_ble_eq_true rfl⟩ (fun H locs hW => ?_)
                          refine lv_lstore_n (lv' := [(1, .long (mixI (al (8 + 0)) (foldD (dgB al) (foldD (dgS al) (foldD (dgL al) (dg2 al) 5) N) B) j * 31 + (al (8 + 0) j).toInt64)), (0, .ref (ad 0)), (3, .int (nI j))]) hx hb dX3_digest_139 rfl hl (by decide) rfl (fun ls hl => ?_)
                          refine lv_iinc (v := nI (j + 1)) (lv' := [(3, .int (nI (j + 1))), (1, .long (mixI (al (8 + 0)) (foldD (dgB al) (foldD (dgS al) (foldD (dgL al) (dg2 al) 5) N) B) j * 31 + (al (8 + 0) j).toInt64)), (0, .ref (ad 0))]) hx hb dX3_digest_140 hl (k := 2) rfl (nI_1 _) (by decide) rfl (fun ls hl => ?_)
                          refine lv_goto (tgt := 121) hx hb dX3_digest_143 (by decide) ?_
                          exact ih (j + 1) H locs ls (by omega) hW (lv_sub hl [2, 1, 0] rfl)
                      exact L121 (3) 0 _ _ ls (by omega) hW (lv_sub hl [1, 2, 0] rfl)
                    | succ kq ih =>
                      intro j H locs ls hjk hW hl
                      have hj : j < B := by omega
                      refine lv_iload_n hx hb dX3_digest_98 rfl (lv_at hl 2 rfl) ?_
                      refine lv_aload_n hx hb dX3_digest_99 rfl (lv_at hl 0 rfl) ?_
                      refine z_get (C := RX3) (T := TX3) (N := 12) (ci := 3) S hE hW hi3 rfl (Nat.lt_of_lt_of_le (by decide) hn) cC_0 6 (by decide) rfl f121 (v := .int (nI B)) (congrArg (fun z => some (Value.int z)) (hB)) dX3_digest_100 ?_
                      refine lv_icmp_ge (tgt := 119) hx hb dX3_digest_103 (by decide) (fun h => absurd h (nI_ge hj (by omega))) (fun _ => ?_)
                      refine lv_aload_n hx hb dX3_digest_106 rfl (lv_at hl 0 rfl) ?_
                      refine lv_lload_n hx hb dX3_digest_107 rfl (lv_at hl 1 rfl) ?_
                      refine lv_iload_n hx hb dX3_digest_108 rfl (lv_at hl 2 rfl) ?_
                      refine z_cVl (As := [.long (foldD (dgB al) (foldD (dgS al) (foldD (dgL al) (dg2 al) 5) N) j), .int (nI j)]) (rest := []) (k := 0) S hE hW (cX3_withBoat_ok l D n ad cy sa H.size hn al ex (foldD (dgB al) (foldD (dgS al) (foldD (dgL al) (dg2 al) 5) N) j) B hB hB4 j (by omega)) (cwV 2 hts gX3_digest_X3_withBoat rfl rfl rfl (by decide +kernel) ⟨Nat.le_of_ble_eq_true rfl, Nat.le_of_ble_eq_true rfl⟩) (Nat.lt_of_lt_of_le (by decide) hn) cC_0 rfl rfl rfl hl.1 rfl (Nat.le_of_ble_eq_true rfl) dX3_digest_109 ⟨Nat.le_of_ble_eq_true rfl, Nat.le_of_ble_eq_true rfl⟩ (fun r _ H locs hp hW => ?_)
                      subst hp
                      refine lv_lstore_n (lv' := [(1, .long (mixI (fun q => v_boat al (nI j) (nI q)) (foldD (dgB al) (foldD (dgS al) (foldD (dgL al) (dg2 al) 5) N) j) 7)), (0, .ref (ad 0)), (3, .int (nI j))]) hx hb dX3_digest_112 rfl hl (by decide) rfl (fun ls hl => ?_)
                      refine lv_iinc (v := nI (j + 1)) (lv' := [(3, .int (nI (j + 1))), (1, .long (mixI (fun q => v_boat al (nI j) (nI q)) (foldD (dgB al) (foldD (dgS al) (foldD (dgL al) (dg2 al) 5) N) j) 7)), (0, .ref (ad 0))]) hx hb dX3_digest_113 hl (k := 2) rfl (nI_1 _) (by decide) rfl (fun ls hl => ?_)
                      refine lv_goto (tgt := 98) hx hb dX3_digest_116 (by decide) ?_
                      exact ih (j + 1) H locs ls (by omega) hW (lv_sub hl [2, 1, 0] rfl)
                  exact L98 (B) 0 _ _ ls (by omega) hW (lv_sub hl [1, 2, 0] rfl)
                | succ kq ih =>
                  intro j H locs ls hjk hW hl
                  have hj : j < N := by omega
                  obtain ⟨a, ha, ha8⟩ := hab j (by omega)
                  refine lv_iload_n hx hb dX3_digest_75 rfl (lv_at hl 2 rfl) ?_
                  refine lv_aload_n hx hb dX3_digest_76 rfl (lv_at hl 0 rfl) ?_
                  refine z_get (C := RX3) (T := TX3) (N := 12) (ci := 3) S hE hW hi3 rfl (Nat.lt_of_lt_of_le (by decide) hn) cC_0 4 (by decide) rfl f75 (v := .int (nI N)) (congrArg (fun z => some (Value.int z)) (hN)) dX3_digest_77 ?_
                  refine lv_icmp_ge (tgt := 96) hx hb dX3_digest_80 (by decide) (fun h => absurd h (nI_ge hj (by omega))) (fun _ => ?_)
                  refine lv_aload_n hx hb dX3_digest_83 rfl (lv_at hl 0 rfl) ?_
                  refine lv_lload_n hx hb dX3_digest_84 rfl (lv_at hl 1 rfl) ?_
                  refine lv_iload_n hx hb dX3_digest_85 rfl (lv_at hl 2 rfl) ?_
                  refine z_cVl (As := [.long (foldD (dgS al) (foldD (dgL al) (dg2 al) 5) j), .int (nI j)]) (rest := []) (k := 0) S hE hW (cX3_withSledge_ok l D n ad cy sa H.size hn al ex (foldD (dgS al) (foldD (dgL al) (dg2 al) 5) j) N hN hN6 hab j (by omega) a ha ha8) (cwV 2 hts gX3_digest_X3_withSledge rfl rfl rfl (by decide +kernel) ⟨Nat.le_of_ble_eq_true rfl, Nat.le_of_ble_eq_true rfl⟩) (Nat.lt_of_lt_of_le (by decide) hn) cC_0 rfl rfl rfl hl.1 rfl (Nat.le_of_ble_eq_true rfl) dX3_digest_86 ⟨Nat.le_of_ble_eq_true rfl, Nat.le_of_ble_eq_true rfl⟩ (fun r _ H locs hp hW => ?_)
                  subst hp
                  refine z_toplt2 (y := dgS al j (foldD (dgS al) (foldD (dgL al) (dg2 al) 5) j)) (by unfold dgS; rw [ha, ix_nI (show a < 2 ^ 31 by omega)]) ?_
                  refine lv_lstore_n (lv' := [(1, .long (dgS al j (foldD (dgS al) (foldD (dgL al) (dg2 al) 5) j))), (0, .ref (ad 0)), (3, .int (nI j))]) hx hb dX3_digest_89 rfl hl (by decide) rfl (fun ls hl => ?_)
                  refine lv_iinc (v := nI (j + 1)) (lv' := [(3, .int (nI (j + 1))), (1, .long (dgS al j (foldD (dgS al) (foldD (dgL al) (dg2 al) 5) j))), (0, .ref (ad 0))]) hx hb dX3_digest_90 hl (k := 2) rfl (nI_1 _) (by decide) rfl (fun ls hl => ?_)
                  refine lv_goto (tgt := 75) hx hb dX3_digest_93 (by decide) ?_
                  exact ih (j + 1) H locs ls (by omega) hW (lv_sub hl [2, 1, 0] rfl)
              exact L75 (N) 0 _ _ ls (by omega) hW (lv_sub hl [1, 2, 0] rfl)
            | succ kq ih =>
              intro j H locs ls hjk hW hl
              have hj : j < 5 := by omega
              refine lv_iload_n hx hb dX3_digest_55 rfl (lv_at hl 2 rfl) ?_
              refine lv_iconst (v := 5) hx hb dX3_digest_56 (by decide) ?_
              refine lv_icmp_ge (tgt := 73) hx hb dX3_digest_57 (by decide) (fun h => absurd h (nI_ge (b := 5) hj (by decide))) (fun _ => ?_)
              refine lv_aload_n hx hb dX3_digest_60 rfl (lv_at hl 0 rfl) ?_
              refine lv_lload_n hx hb dX3_digest_61 rfl (lv_at hl 1 rfl) ?_
              refine lv_iload_n hx hb dX3_digest_62 rfl (lv_at hl 2 rfl) ?_
              refine z_cVl (As := [.long (foldD (dgL al) (dg2 al) j), .int (nI j)]) (rest := []) (k := 0) S hE hW (cX3_withLayer_ok l D n ad cy sa H.size hn al ex (foldD (dgL al) (dg2 al) j) j (by omega)) (cwV 2 hts gX3_digest_X3_withLayer rfl rfl rfl (by decide +kernel) ⟨Nat.le_of_ble_eq_true rfl, Nat.le_of_ble_eq_true rfl⟩) (Nat.lt_of_lt_of_le (by decide) hn) cC_0 rfl rfl rfl hl.1 rfl (Nat.le_of_ble_eq_true rfl) dX3_digest_63 ⟨Nat.le_of_ble_eq_true rfl, Nat.le_of_ble_eq_true rfl⟩ (fun r _ H locs hp hW => ?_)
              subst hp
              refine lv_lstore_n (lv' := [(1, .long (mixI (fun q => v_layer al (nI j) (nI q)) (foldD (dgL al) (dg2 al) j) 4)), (0, .ref (ad 0)), (3, .int (nI j))]) hx hb dX3_digest_66 rfl hl (by decide) rfl (fun ls hl => ?_)
              refine lv_iinc (v := nI (j + 1)) (lv' := [(3, .int (nI (j + 1))), (1, .long (mixI (fun q => v_layer al (nI j) (nI q)) (foldD (dgL al) (dg2 al) j) 4)), (0, .ref (ad 0))]) hx hb dX3_digest_67 hl (k := 2) rfl (nI_1 _) (by decide) rfl (fun ls hl => ?_)
              refine lv_goto (tgt := 55) hx hb dX3_digest_70 (by decide) ?_
              exact ih (j + 1) H locs ls (by omega) hW (lv_sub hl [2, 1, 0] rfl)
          exact L55 (5) 0 _ _ ls (by omega) hW (lv_sub hl [1, 2, 0] rfl)
        | succ kq ih =>
          intro j H locs ls hjk hW hl
          have hj : j < 8 := by omega
          refine lv_iload_n hx hb dX3_digest_30 rfl (lv_at hl 2 rfl) ?_
          refine lv_bipush (v := 8) hx hb dX3_digest_31 (by decide) ?_
          refine lv_icmp_ge (tgt := 53) hx hb dX3_digest_33 (by decide) (fun h => absurd h (nI_ge (b := 8) hj (by decide))) (fun _ => ?_)
          refine lv_lload_n hx hb dX3_digest_36 rfl (lv_at hl 1 rfl) ?_
          refine lv_aload_n hx hb dX3_digest_37 rfl (lv_at hl 0 rfl) ?_
          refine z_get (C := RX3) (T := TX3) (N := 12) (ci := 3) S hE hW hi3 rfl (Nat.lt_of_lt_of_le (by decide) hn) cC_0 2 (by decide) rfl f16 (v := .ref (ad 3)) rfl dX3_digest_38 ?_
          refine lv_iload_n hx hb dX3_digest_41 rfl (lv_at hl 2 rfl) ?_
          refine z_ald S hE hW (Nat.lt_of_lt_of_le (by decide) hn) cC_3 j rfl (by omega) (by decide) (v := al 3 j) rfl dX3_digest_42 ?_
          refine z_pSl (As := [.long (mixI (al 3) (dg1 al) j), .int (al 3 j)]) (rest := []) S hE hW (cX3_mixed_ok l (mixI (al 3) (dg1 al) j) (al 3 j)) (va_cwS 2 hts gX3_digest_X3_mixed rfl rfl rfl (by decide +kernel) ⟨Nat.le_of_ble_eq_true rfl, Nat.le_of_ble_eq_true rfl⟩) rfl hl.1 rfl (Nat.le_of_ble_eq_true rfl) dX3_digest_43 ⟨Nat.le_of_ble_eq_true rfl, Nat.le_of_ble_eq_true rfl⟩ (fun H locs hW => ?_)
          refine lv_lstore_n (lv' := [(1, .long (mixI (al 3) (dg1 al) j * 31 + (al 3 j).toInt64)), (0, .ref (ad 0)), (3, .int (nI j))]) hx hb dX3_digest_46 rfl hl (by decide) rfl (fun ls hl => ?_)
          refine lv_iinc (v := nI (j + 1)) (lv' := [(3, .int (nI (j + 1))), (1, .long (mixI (al 3) (dg1 al) j * 31 + (al 3 j).toInt64)), (0, .ref (ad 0))]) hx hb dX3_digest_47 hl (k := 2) rfl (nI_1 _) (by decide) rfl (fun ls hl => ?_)
          refine lv_goto (tgt := 30) hx hb dX3_digest_50 (by decide) ?_
          exact ih (j + 1) H locs ls (by omega) hW (lv_sub hl [2, 1, 0] rfl)
      exact L30 (8) 0 _ _ ls (by omega) hW (lv_sub hl [1, 2, 0] rfl)
    | succ kq ih =>
      intro j H locs ls hjk hW hl
      have hj : j < 9 := by omega
      refine lv_iload_n hx hb dX3_digest_6 rfl (lv_at hl 2 rfl) ?_
      refine lv_bipush (v := 9) hx hb dX3_digest_7 (by decide) ?_
      refine lv_icmp_ge (tgt := 28) hx hb dX3_digest_9 (by decide) (fun h => absurd h (nI_ge (b := 9) hj (by decide))) (fun _ => ?_)
      refine lv_lload_n hx hb dX3_digest_12 rfl (lv_at hl 1 rfl) ?_
      refine lv_aload_n hx hb dX3_digest_13 rfl (lv_at hl 0 rfl) ?_
      refine lv_iload_n hx hb dX3_digest_14 rfl (lv_at hl 2 rfl) ?_
      refine z_cVi (As := [.int (nI j)]) (rest := [.long (mixI (fun q => v_count al (nI q)) 1321 j)]) (k := 0) S hE hW (cX3_count0_ok l D n ad cy sa H.size hn al ex N hN hN6 h hh hh3 j (by omega)) (cwV 1 hts gX3_digest_X3_count rfl rfl rfl (by decide +kernel) ⟨Nat.le_of_ble_eq_true rfl, Nat.le_of_ble_eq_true rfl⟩) (Nat.lt_of_lt_of_le (by decide) hn) cC_0 rfl rfl rfl hl.1 rfl (Nat.le_of_ble_eq_true rfl) dX3_digest_15 ⟨Nat.le_of_ble_eq_true rfl, Nat.le_of_ble_eq_true rfl⟩ (fun r _ H locs hp hW => ?_)
      subst hp
      refine z_pSl (As := [.long (mixI (fun q => v_count al (nI q)) 1321 j), .int (v_count al (nI j))]) (rest := []) S hE hW (cX3_mixed_ok l (mixI (fun q => v_count al (nI q)) 1321 j) (v_count al (nI j))) (va_cwS 2 hts gX3_digest_X3_mixed rfl rfl rfl (by decide +kernel) ⟨Nat.le_of_ble_eq_true rfl, Nat.le_of_ble_eq_true rfl⟩) rfl hl.1 rfl (Nat.le_of_ble_eq_true rfl) dX3_digest_18 ⟨Nat.le_of_ble_eq_true rfl, Nat.le_of_ble_eq_true rfl⟩ (fun H locs hW => ?_)
      refine lv_lstore_n (lv' := [(1, .long (mixI (fun q => v_count al (nI q)) 1321 j * 31 + (v_count al (nI j)).toInt64)), (0, .ref (ad 0)), (3, .int (nI j))]) hx hb dX3_digest_21 rfl hl (by decide) rfl (fun ls hl => ?_)
      refine lv_iinc (v := nI (j + 1)) (lv' := [(3, .int (nI (j + 1))), (1, .long (mixI (fun q => v_count al (nI q)) 1321 j * 31 + (v_count al (nI j)).toInt64)), (0, .ref (ad 0))]) hx hb dX3_digest_22 hl (k := 2) rfl (nI_1 _) (by decide) rfl (fun ls hl => ?_)
      refine lv_goto (tgt := 6) hx hb dX3_digest_25 (by decide) ?_
      exact ih (j + 1) H locs ls (by omega) hW (lv_sub hl [2, 1, 0] rfl)
  exact L6 (9) 0 _ _ ls (by omega) hW (lv_sub hl [2, 1, 0] rfl)
