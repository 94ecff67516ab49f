/-! the reference: its digest -/
set_option maxHeartbeats 4000000 in
set_option maxRecDepth 100000 in
theorem cX4_digest_ok (l : Launch) (D : va_G) (n : Nat) (ad cy sa : Nat → Nat) (sz : Nat) (hn : 35 ≤ n) (al : Nat → Nat → Int32) (th : Int32) (ex : Nat → va_E) (N : Nat) (hN : al 0 4 = nI N) (hN6 : N ≤ 6) (h : Nat) (hh : al 0 8 = nI h) (hh3 : h < 2 ^ 30) (hrw : rowO al N) (B : Nat) (hB : al 0 6 = nI B) (hB4 : B ≤ 4) : Met l yX4_digest wsX4_digest ({ frames := 4, cells := 0, slots := 0, locals := 124 }) (PW D n ad cy sa sz (cM cy ad (enc al th) ex) [.ref (ad 28)]) (QDl D n ad sz (dig al) (cM cy ad (enc al 0) ex)) 0 0 (Acc n ad sz) := by
  refine zs_met (cc := cX4_digest) (maxL := 7) (ret := (some .long)) (own := RX4) (by decide) rfl rfl (Nat.le_of_ble_eq_true rfl) ?_
  intro p e s m args below meth c ls S hE hW hr hlk hsz hav hl
  subst hsz
  have hx := S.1
  have hb := S.2.1
  have hown := S.2.2.2.1
  have hts := S.2.2.2.2
  have hl : lv_has ls 7 [(0, .ref (ad 28))] := hl
  have f28 := hts (.fieldLink RX4 28 "PumiceSledgeModel" "thrown" "I") (by decide +kernel)
  have hi4 : ∀ w ∈ wsX40, w ∈ wsX4_digest := by decide +kernel
  have k150 := hts (.constantLong RX4 150 1321) (by decide +kernel)
  have f16 := hts (.fieldLink RX4 16 "PumiceSledgeModel" "gusts" "[I") (by decide +kernel)
  have f32 := hts (.fieldLink RX4 32 "PumiceSledgeModel" "sledges" "I") (by decide +kernel)
  have f39 := hts (.fieldLink RX4 39 "PumiceSledgeModel" "boats" "I") (by decide +kernel)
  have k152 := hts (.constantLong RX4 152 31) (by decide +kernel)
  have f25 := hts (.fieldLink RX4 25 "PumiceSledgeModel" "numbers" "[I") (by decide +kernel)
  refine lv_aload_n hx hb dX4_digest_0 rfl (lv_at hl 0 rfl) ?_
  refine lv_iconst (v := 0) hx hb dX4_digest_1 (by decide) ?_
  refine z_put (ce' := cM cy ad (zup (enc al th) 0 0 0) ex) (C := RX4) (T := TX4) (N := 9) (ci := 4) S hE hW hi4 tyX4 tyX4_ok nmX4 rfl (Nat.lt_of_lt_of_le (by decide) hn) cM_0 0 (by decide) rfl f28 rfl rfl (Nat.le_of_ble_eq_true rfl) (pM_0 (by decide)) (fun j h => cM_o h) dX4_digest_2 (fun H locs hW => ?_)
  rw [e_th] at hW
  refine lv_ldc2 hx hb hown k150 dX4_digest_5 ?_
  refine lv_lstore_n (lv' := [(1, .long 1321), (0, .ref (ad 28))]) hx hb dX4_digest_8 rfl hl (by decide) rfl (fun ls hl => ?_)
  refine lv_iconst (v := 0) hx hb dX4_digest_9 (by decide) ?_
  refine lv_istore_n (lv' := [(3, .int 0), (1, .long 1321), (0, .ref (ad 28))]) hx hb dX4_digest_10 rfl hl (by decide) rfl (fun ls hl => ?_)
  have L11 : ∀ (kq j : Nat) (H : Heap) (locs : List Loc) (ls : Array Slot), j + kq = 9 → WS D n ad (cM cy ad (enc al 0) ex) (Acc n ad s.heap.size) s.heap H locs → lv_has ls 7 [(0, .ref (ad 28)), (1, .long (mixI (fun q => v_count al (nI q)) 1321 j)), (3, .int (nI j))] → W p l e { frames := 4, cells := 0, slots := 0, locals := 124 } s m args below meth c H locs 0 0 (MQ below (QDl D n ad s.heap.size (dig al) (cM cy ad (enc al 0) ex)) args s 0 0 (Acc n ad s.heap.size)) (F0 m 11 ls []) := by
    intro kq
    induction kq with
    | zero =>
      intro j H locs ls hjk hW hl
      have hjN : j = 9 := by omega
      try rw [hjN] at hW
      try rw [hjN] at hl
      refine lv_iload_n hx hb dX4_digest_11 rfl (lv_at hl 2 rfl) ?_
      refine lv_bipush (v := 9) hx hb dX4_digest_12 (by decide) ?_
      refine lv_icmp_ge (tgt := 36) hx hb dX4_digest_14 (by decide) (fun _ => ?_) (fun h => absurd (by decide) h)
      refine lv_aload_n hx hb dX4_digest_36 rfl (lv_at hl 0 rfl) ?_
      refine z_get (C := RX4) (T := TX4) (N := 9) (ci := 4) S hE hW hi4 rfl (Nat.lt_of_lt_of_le (by decide) hn) cM_0 5 (by decide) rfl f16 (v := .ref (ad 31)) rfl dX4_digest_37 ?_
      refine lv_astore_n (lv' := [(3, .ref (ad 31)), (0, .ref (ad 28)), (1, .long (mixI (fun q => v_count al (nI q)) 1321 9))]) hx hb dX4_digest_40 rfl hl (by decide) rfl (fun ls hl => ?_)
      refine lv_aload_n hx hb dX4_digest_41 rfl (lv_at hl 0 rfl) ?_
      refine z_alen S hE hW (Nat.lt_of_lt_of_le (by decide) hn) cM_3 (v := 8) (by decide) dX4_digest_42 ?_
      refine lv_istore (lv' := [(4, .int 8), (3, .ref (ad 31)), (0, .ref (ad 28)), (1, .long (mixI (fun q => v_count al (nI q)) 1321 9))]) hx hb dX4_digest_43 hl (by decide) rfl (fun ls hl => ?_)
      refine lv_iconst (v := 0) hx hb dX4_digest_45 (by decide) ?_
      refine lv_istore (lv' := [(5, .int 0), (4, .int 8), (3, .ref (ad 31)), (0, .ref (ad 28)), (1, .long (mixI (fun q => v_count al (nI q)) 1321 9))]) hx hb dX4_digest_46 hl (by decide) rfl (fun ls hl => ?_)
      have L48 : ∀ (kq j : Nat) (H : Heap) (locs : List Loc) (ls : Array Slot), j + kq = 8 → WS D n ad (cM cy ad (enc al 0) ex) (Acc n ad s.heap.size) s.heap H locs → lv_has ls 7 [(0, .ref (ad 28)), (1, .long (mixI (al 3) (dg1 al) j)), (3, .ref (ad 31)), (4, .int 8), (5, .int (nI j))] → W p l e { frames := 4, cells := 0, slots := 0, locals := 124 } s m args below meth c H locs 0 0 (MQ below (QDl D n ad s.heap.size (dig al) (cM cy ad (enc al 0) ex)) args s 0 0 (Acc n ad s.heap.size)) (F0 m 48 ls []) := by
        intro kq
        induction kq with
        | zero =>
          intro j H locs ls hjk hW hl
          have hjN : j = 8 := by omega
          try rw [hjN] at hW
          try rw [hjN] at hl
          refine lv_iload hx hb dX4_digest_48 (lv_at hl 4 rfl) ?_
          refine lv_iload hx hb dX4_digest_50 (lv_at hl 3 rfl) ?_
          refine lv_icmp_ge (tgt := 77) hx hb dX4_digest_52 (by decide) (fun _ => ?_) (fun h => absurd (by decide) h)
          refine lv_iconst (v := 0) hx hb dX4_digest_77 (by decide) ?_
          refine lv_istore_n (lv' := [(3, .int 0), (0, .ref (ad 28)), (1, .long (mixI (al 3) (dg1 al) 8)), (4, .int 8), (5, .int (nI 8))]) hx hb dX4_digest_78 rfl hl (by decide) rfl (fun ls hl => ?_)
          have L79 : ∀ (kq j : Nat) (H : Heap) (locs : List Loc) (ls : Array Slot), j + kq = 5 → WS D n ad (cM cy ad (enc al 0) ex) (Acc n ad s.heap.size) s.heap H locs → lv_has ls 7 [(0, .ref (ad 28)), (1, .long (foldD (dgL al) (dg2 al) j)), (3, .int (nI j))] → W p l e { frames := 4, cells := 0, slots := 0, locals := 124 } s m args below meth c H locs 0 0 (MQ below (QDl D n ad s.heap.size (dig al) (cM cy ad (enc al 0) ex)) args s 0 0 (Acc n ad s.heap.size)) (F0 m 79 ls []) := by
            intro kq
            induction kq with
            | zero =>
              intro j H locs ls hjk hW hl
              have hjN : j = 5 := by omega
              try rw [hjN] at hW
              try rw [hjN] at hl
              refine lv_iload_n hx hb dX4_digest_79 rfl (lv_at hl 2 rfl) ?_
              refine lv_iconst (v := 5) hx hb dX4_digest_80 (by decide) ?_
              refine lv_icmp_ge (tgt := 120) hx hb dX4_digest_81 (by decide) (fun _ => ?_) (fun h => absurd (by decide) h)
              refine lv_iconst (v := 0) hx hb dX4_digest_120 (by decide) ?_
              refine lv_istore_n (lv' := [(3, .int 0), (0, .ref (ad 28)), (1, .long (foldD (dgL al) (dg2 al) 5))]) hx hb dX4_digest_121 rfl hl (by decide) rfl (fun ls hl => ?_)
              have L122 : ∀ (kq j : Nat) (H : Heap) (locs : List Loc) (ls : Array Slot), j + kq = N → WS D n ad (cM cy ad (enc al 0) ex) (Acc n ad s.heap.size) s.heap H locs → lv_has ls 7 [(0, .ref (ad 28)), (1, .long (foldD (dgS al) (foldD (dgL al) (dg2 al) 5) j)), (3, .int (nI j))] → W p l e { frames := 4, cells := 0, slots := 0, locals := 124 } s m args below meth c H locs 0 0 (MQ below (QDl D n ad s.heap.size (dig al) (cM cy ad (enc al 0) ex)) args s 0 0 (Acc n ad s.heap.size)) (F0 m 122 ls []) := by
                intro kq
                induction kq with
                | zero =>
                  intro j H locs ls hjk hW hl
                  have hjN : j = N := by omega
                  try rw [hjN] at hW
                  try rw [hjN] at hl
                  refine lv_iload_n hx hb dX4_digest_122 rfl (lv_at hl 2 rfl) ?_
                  refine lv_aload_n hx hb dX4_digest_123 rfl (lv_at hl 0 rfl) ?_
                  refine z_get (C := RX4) (T := TX4) (N := 9) (ci := 4) S hE hW hi4 rfl (Nat.lt_of_lt_of_le (by decide) hn) cM_0 1 (by decide) rfl f32 (v := .int (nI N)) (congrArg (fun z => some (Value.int z)) ((r_n).trans (hN))) dX4_digest_124 ?_
                  refine lv_icmp_ge (tgt := 204) hx hb dX4_digest_127 (by decide) (fun _ => ?_) (fun h => absurd (nI_le (Nat.le_refl N) (by omega)) h)
                  refine lv_iconst (v := 0) hx hb dX4_digest_204 (by decide) ?_
                  refine lv_istore_n (lv' := [(3, .int 0), (0, .ref (ad 28)), (1, .long (foldD (dgS al) (foldD (dgL al) (dg2 al) 5) N))]) hx hb dX4_digest_205 rfl hl (by decide) rfl (fun ls hl => ?_)
                  have L206 : ∀ (kq j : Nat) (H : Heap) (locs : List Loc) (ls : Array Slot), j + kq = B → WS D n ad (cM cy ad (enc al 0) ex) (Acc n ad s.heap.size) s.heap H locs → lv_has ls 7 [(0, .ref (ad 28)), (1, .long (foldD (dgB al) (foldD (dgS al) (foldD (dgL al) (dg2 al) 5) N) j)), (3, .int (nI j))] → W p l e { frames := 4, cells := 0, slots := 0, locals := 124 } s m args below meth c H locs 0 0 (MQ below (QDl D n ad s.heap.size (dig al) (cM cy ad (enc al 0) ex)) args s 0 0 (Acc n ad s.heap.size)) (F0 m 206 ls []) := by
                    intro kq
                    induction kq with
                    | zero =>
                      intro j H locs ls hjk hW hl
                      have hjN : j = B := by omega
                      try rw [hjN] at hW
                      try rw [hjN] at hl
                      refine lv_iload_n hx hb dX4_digest_206 rfl (lv_at hl 2 rfl) ?_
                      refine lv_aload_n hx hb dX4_digest_207 rfl (lv_at hl 0 rfl) ?_
                      refine z_get (C := RX4) (T := TX4) (N := 9) (ci := 4) S hE hW hi4 rfl (Nat.lt_of_lt_of_le (by decide) hn) cM_0 2 (by decide) rfl f39 (v := .int (nI B)) (congrArg (fun z => some (Value.int z)) ((r_b).trans (hB))) dX4_digest_208 ?_
                      refine lv_icmp_ge (tgt := 251) hx hb dX4_digest_211 (by decide) (fun _ => ?_) (fun h => absurd (nI_le (Nat.le_refl B) (by omega)) h)
                      refine lv_iconst (v := 0) hx hb dX4_digest_251 (by decide) ?_
                      refine lv_istore_n (lv' := [(3, .int 0), (0, .ref (ad 28)), (1, .long (foldD (dgB al) (foldD (dgS al) (foldD (dgL al) (dg2 al) 5) N) B))]) hx hb dX4_digest_252 rfl hl (by decide) rfl (fun ls hl => ?_)
                      have L253 : ∀ (kq j : Nat) (H : Heap) (locs : List Loc) (ls : Array Slot), j + kq = 3 → WS D n ad (cM cy ad (enc al 0) ex) (Acc n ad s.heap.size) s.heap H locs → lv_has ls 7 [(0, .ref (ad 28)), (1, .long (mixI (al (8 + 0)) (foldD (dgB al) (foldD (dgS al) (foldD (dgL al) (dg2 al) 5) N) B) j)), (3, .int (nI j))] → W p l e { frames := 4, cells := 0, slots := 0, locals := 124 } s m args below meth c H locs 0 0 (MQ below (QDl D n ad s.heap.size (dig al) (cM cy ad (enc al 0) ex)) args s 0 0 (Acc n ad s.heap.size)) (F0 m 253 ls []) := by
                        intro kq
                        induction kq with
                        | zero =>
                          intro j H locs ls hjk hW hl
                          have hjN : j = 3 := by omega
                          try rw [hjN] at hW
                          try rw [hjN] at hl
                          refine lv_iload_n hx hb dX4_digest_253 rfl (lv_at hl 2 rfl) ?_
                          refine lv_iconst (v := 3) hx hb dX4_digest_254 (by decide) ?_
                          refine lv_icmp_ge (tgt := 280) hx hb dX4_digest_255 (by decide) (fun _ => ?_) (fun h => absurd (by decide) h)
                          refine lv_lload_n hx hb dX4_digest_280 rfl (lv_at hl 1 rfl) ?_
                          exact ze_l S hW hr hlk () rfl (by unfold dig; rw [hN, hB, ix_nI (show N < 2 ^ 31 by omega), ix_nI (show B < 2 ^ 31 by omega)]) (Nat.le_of_ble_eq_true rfl) (Nat.le_of_ble_eq_true rfl) dX4_digest_281
                        | succ kq ih =>
                          intro j H locs ls hjk hW hl
                          have hj : j < 3 := by omega
                          refine lv_iload_n hx hb dX4_digest_253 rfl (lv_at hl 2 rfl) ?_
                          refine lv_iconst (v := 3) hx hb dX4_digest_254 (by decide) ?_
                          refine lv_icmp_ge (tgt := 280) hx hb dX4_digest_255 (by decide) (fun h => absurd h (nI_ge (b := 3) hj (by decide))) (fun _ => ?_)
                          refine lv_lload_n hx hb dX4_digest_258 rfl (lv_at hl 1 rfl) ?_
                          refine lv_ldc2 hx hb hown k152 dX4_digest_259 ?_
                          refine lv_lmul hx hb dX4_digest_262 ?_
                          refine lv_aload_n hx hb dX4_digest_263 rfl (lv_at hl 0 rfl) ?_
                          refine z_get (C := RX4) (T := TX4) (N := 9) (ci := 4) S hE hW hi4 rfl (Nat.lt_of_lt_of_le (by decide) hn) cM_0 8 (by decide) rfl f25 (v := .ref (ad 34)) rfl dX4_digest_264 ?_
                          refine lv_iconst (v := 3) hx hb dX4_digest_267 (by decide) ?_
                          refine lv_iload_n hx hb dX4_digest_268 rfl (lv_at hl 2 rfl) ?_
                          refine lv_iadd hx hb dX4_digest_269 ?_
                          refine z_ald S hE hW (Nat.lt_of_lt_of_le (by decide) hn) cM_6 (3 + j) (nI_add 3 j) (by omega) (by decide) (v := al (8 + 0) j) ((r_mk (k := j) (by omega))) dX4_digest_270 ?_
                          refine lv_i2l (v := (al (8 + 0) j).toInt64) hx hb dX4_digest_271 rfl ?_
                          refine lv_ladd hx hb dX4_digest_272 ?_
                          refine lv_lstore_n (lv' := [(1, .long ((mixI (al (8 + 0)) (foldD (dgB al) (foldD (dgS al) (foldD (dgL al) (dg2 al) 5) N) B) j * 31) + (al (8 + 0) j).toInt64)), (0, .ref (ad 28)), (3, .int (nI j))]) hx hb dX4_digest_273 rfl hl (by decide) rfl (fun ls hl => ?_)
                          refine lv_iinc (v := nI (j + 1)) (lv' := [(3, .int (nI (j + 1))), (1, .long ((mixI (al (8 + 0)) (foldD (dgB al) (foldD (dgS al) (foldD (dgL al) (dg2 al) 5) N) B) j * 31) + (al (8 + 0) j).toInt64)), (0, .ref (ad 28))]) hx hb dX4_digest_274 hl (k := 2) rfl (nI_1 _) (by decide) rfl (fun ls hl => ?_)
                          refine lv_goto (tgt := 253) hx hb dX4_digest_277 (by decide) ?_
                          exact ih (j + 1) H locs ls (by omega) hW (lv_sub hl [2, 1, 0] rfl)
                      exact L253 (3) 0 _ _ ls (by omega) hW (lv_sub hl [1, 2, 0] rfl)
                    | succ kq ih =>
                      intro j H locs ls hjk hW hl
                      have hj : j < B := by omega
                      have hjB := hj
                      refine lv_iload_n hx hb dX4_digest_206 rfl (lv_at hl 2 rfl) ?_
                      refine lv_aload_n hx hb dX4_digest_207 rfl (lv_at hl 0 rfl) ?_
                      refine z_get (C := RX4) (T := TX4) (N := 9) (ci := 4) S hE hW hi4 rfl (Nat.lt_of_lt_of_le (by decide) hn) cM_0 2 (by decide) rfl f39 (v := .int (nI B)) (congrArg (fun z => some (Value.int z)) ((r_b).trans (hB))) dX4_digest_208 ?_
                      refine lv_icmp_ge (tgt := 251) hx hb dX4_digest_211 (by decide) (fun h => absurd h (nI_ge hj (by omega))) (fun _ => ?_)
                      refine lv_iconst (v := 0) hx hb dX4_digest_214 (by decide) ?_
                      refine lv_istore (lv' := [(4, .int 0), (0, .ref (ad 28)), (1, .long (foldD (dgB al) (foldD (dgS al) (foldD (dgL al) (dg2 al) 5) N) j)), (3, .int (nI j))]) hx hb dX4_digest_215 hl (by decide) rfl (fun ls hl => ?_)
                      have L217 : ∀ (kr q : Nat) (H : Heap) (locs : List Loc) (ls : Array Slot), q + kr = 7 → WS D n ad (cM cy ad (enc al 0) ex) (Acc n ad s.heap.size) s.heap H locs → lv_has ls 7 [(0, .ref (ad 28)), (1, .long (mixI (fun r => v_boat al (nI j) (nI r)) (foldD (dgB al) (foldD (dgS al) (foldD (dgL al) (dg2 al) 5) N) j) q)), (3, .int (nI j)), (4, .int (nI q))] → W p l e { frames := 4, cells := 0, slots := 0, locals := 124 } s m args below meth c H locs 0 0 (MQ below (QDl D n ad s.heap.size (dig al) (cM cy ad (enc al 0) ex)) args s 0 0 (Acc n ad s.heap.size)) (F0 m 217 ls []) := by
                        intro kr
                        induction kr with
                        | zero =>
                          intro q H locs ls hjk hW hl
                          have hjN : q = 7 := by omega
                          try rw [hjN] at hW
                          try rw [hjN] at hl
                          refine lv_iload hx hb dX4_digest_217 (lv_at hl 3 rfl) ?_
                          refine lv_bipush (v := 7) hx hb dX4_digest_219 (by decide) ?_
                          refine lv_icmp_ge (tgt := 245) hx hb dX4_digest_221 (by decide) (fun _ => ?_) (fun h => absurd (by decide) h)
                          refine lv_iinc (v := nI (j + 1)) (lv' := [(3, .int (nI (j + 1))), (0, .ref (ad 28)), (1, .long (mixI (fun r => v_boat al (nI j) (nI r)) (foldD (dgB al) (foldD (dgS al) (foldD (dgL al) (dg2 al) 5) N) j) 7)), (4, .int (nI 7))]) hx hb dX4_digest_245 hl (k := 2) rfl (nI_1 _) (by decide) rfl (fun ls hl => ?_)
                          refine lv_goto (tgt := 206) hx hb dX4_digest_248 (by decide) ?_
                          exact ih (j + 1) H locs ls (by omega) hW (lv_sub hl [1, 2, 0] rfl)
                        | succ kr ih =>
                          intro q H locs ls hjk hW hl
                          have hj : q < 7 := by omega
                          refine lv_iload hx hb dX4_digest_217 (lv_at hl 3 rfl) ?_
                          refine lv_bipush (v := 7) hx hb dX4_digest_219 (by decide) ?_
                          refine lv_icmp_ge (tgt := 245) hx hb dX4_digest_221 (by decide) (fun h => absurd h (nI_ge (b := 7) hj (by decide))) (fun _ => ?_)
                          refine lv_lload_n hx hb dX4_digest_224 rfl (lv_at hl 1 rfl) ?_
                          refine lv_ldc2 hx hb hown k152 dX4_digest_225 ?_
                          refine lv_lmul hx hb dX4_digest_228 ?_
                          refine lv_aload_n hx hb dX4_digest_229 rfl (lv_at hl 0 rfl) ?_
                          refine lv_iload_n hx hb dX4_digest_230 rfl (lv_at hl 2 rfl) ?_
                          refine lv_iload hx hb dX4_digest_231 (lv_at hl 3 rfl) ?_
                          refine z_cVi (As := [.int (nI j), .int (nI q)]) (rest := [.long (mixI (fun r => v_boat al (nI j) (nI r)) (foldD (dgB al) (foldD (dgS al) (foldD (dgL al) (dg2 al) 5) N) j) q * 31)]) (k := 28) S hE hW (cX4_boatTold_ok l D n ad cy sa H.size hn al 0 ex j (by omega) q (by omega)) (cwV 2 hts gX4_digest_X4_boatTold rfl rfl rfl (by decide +kernel) ⟨Nat.le_of_ble_eq_true rfl, Nat.le_of_ble_eq_true rfl⟩) (Nat.lt_of_lt_of_le (by decide) hn) cM_0 rfl rfl rfl hl.1 rfl (Nat.le_of_ble_eq_true rfl) dX4_digest_233 ⟨Nat.le_of_ble_eq_true rfl, Nat.le_of_ble_eq_true rfl⟩ (fun r _ H locs hp hW => ?_)
                          subst hp
                          refine lv_i2l (v := ((v_boat al (nI j) (nI q))).toInt64) hx hb dX4_digest_236 rfl ?_
                          refine lv_ladd hx hb dX4_digest_237 ?_
                          refine lv_lstore_n (lv' := [(1, .long ((mixI (fun r => v_boat al (nI j) (nI r)) (foldD (dgB al) (foldD (dgS al) (foldD (dgL al) (dg2 al) 5) N) j) q * 31) + ((v_boat al (nI j) (nI q))).toInt64)), (0, .ref (ad 28)), (3, .int (nI j)), (4, .int (nI q))]) hx hb dX4_digest_238 rfl hl (by decide) rfl (fun ls hl => ?_)
                          refine lv_iinc (v := nI (q + 1)) (lv' := [(4, .int (nI (q + 1))), (1, .long ((mixI (fun r => v_boat al (nI j) (nI r)) (foldD (dgB al) (foldD (dgS al) (foldD (dgL al) (dg2 al) 5) N) j) q * 31) + ((v_boat al (nI j) (nI q))).toInt64)), (0, .ref (ad 28)), (3, .int (nI j))]) hx hb dX4_digest_239 hl (k := 3) rfl (nI_1 _) (by decide) rfl (fun ls hl => ?_)
                          refine lv_goto (tgt := 217) hx hb dX4_digest_242 (by decide) ?_
                          exact ih (q + 1) H locs ls (by omega) hW (lv_sub hl [2, 1, 3, 0] rfl)
                      exact L217 (7) 0 _ _ ls (by omega) hW (lv_sub hl [1, 2, 3, 0] rfl)
                  exact L206 (B) 0 _ _ ls (by omega) hW (lv_sub hl [1, 2, 0] rfl)
                | succ kq ih =>
                  intro j H locs ls hjk hW hl
                  have hj : j < N := by omega
                  have hjN2 := hj
                  obtain ⟨o, a, ho, ha, hao, ho8⟩ := hrw j hj
                  refine lv_iload_n hx hb dX4_digest_122 rfl (lv_at hl 2 rfl) ?_
                  refine lv_aload_n hx hb dX4_digest_123 rfl (lv_at hl 0 rfl) ?_
                  refine z_get (C := RX4) (T := TX4) (N := 9) (ci := 4) S hE hW hi4 rfl (Nat.lt_of_lt_of_le (by decide) hn) cM_0 1 (by decide) rfl f32 (v := .int (nI N)) (congrArg (fun z => some (Value.int z)) ((r_n).trans (hN))) dX4_digest_124 ?_
                  refine lv_icmp_ge (tgt := 204) hx hb dX4_digest_127 (by decide) (fun h => absurd h (nI_ge hj (by omega))) (fun _ => ?_)
                  refine lv_iconst (v := 0) hx hb dX4_digest_130 (by decide) ?_
                  refine lv_istore (lv' := [(4, .int 0), (0, .ref (ad 28)), (1, .long (foldD (dgS al) (foldD (dgL al) (dg2 al) 5) j)), (3, .int (nI j))]) hx hb dX4_digest_131 hl (by decide) rfl (fun ls hl => ?_)
                  have L133 : ∀ (kr q : Nat) (H : Heap) (locs : List Loc) (ls : Array Slot), q + kr = 6 → WS D n ad (cM cy ad (enc al 0) ex) (Acc n ad s.heap.size) s.heap H locs → lv_has ls 7 [(0, .ref (ad 28)), (1, .long (mixI (fun r => v_told al (nI j) (nI r)) (foldD (dgS al) (foldD (dgL al) (dg2 al) 5) j) q)), (3, .int (nI j)), (4, .int (nI q))] → W p l e { frames := 4, cells := 0, slots := 0, locals := 124 } s m args below meth c H locs 0 0 (MQ below (QDl D n ad s.heap.size (dig al) (cM cy ad (enc al 0) ex)) args s 0 0 (Acc n ad s.heap.size)) (F0 m 133 ls []) := by
                    intro kr
                    induction kr with
                    | zero =>
                      intro q H locs ls hjk hW hl
                      have hjN : q = 6 := by omega
                      try rw [hjN] at hW
                      try rw [hjN] at hl
                      refine lv_iload hx hb dX4_digest_133 (lv_at hl 3 rfl) ?_
                      refine lv_bipush (v := 6) hx hb dX4_digest_135 (by decide) ?_
                      refine lv_icmp_ge (tgt := 161) hx hb dX4_digest_137 (by decide) (fun _ => ?_) (fun h => absurd (by decide) h)
                      refine lv_iconst (v := 0) hx hb dX4_digest_161 (by decide) ?_
                      refine lv_istore (lv' := [(4, .int 0), (0, .ref (ad 28)), (1, .long (mixI (fun r => v_told al (nI j) (nI r)) (foldD (dgS al) (foldD (dgL al) (dg2 al) 5) j) 6)), (3, .int (nI j))]) hx hb dX4_digest_162 hl (by decide) rfl (fun ls hl => ?_)
                      have L164 : ∀ (kr q : Nat) (H : Heap) (locs : List Loc) (ls : Array Slot), q + kr = a → WS D n ad (cM cy ad (enc al 0) ex) (Acc n ad s.heap.size) s.heap H locs → lv_has ls 7 [(0, .ref (ad 28)), (1, .long (mixI (al (17 + j)) (mixI (fun r => v_told al (nI j) (nI r)) (foldD (dgS al) (foldD (dgL al) (dg2 al) 5) j) 6) q)), (3, .int (nI j)), (4, .int (nI q))] → W p l e { frames := 4, cells := 0, slots := 0, locals := 124 } s m args below meth c H locs 0 0 (MQ below (QDl D n ad s.heap.size (dig al) (cM cy ad (enc al 0) ex)) args s 0 0 (Acc n ad s.heap.size)) (F0 m 164 ls []) := by
                        intro kr
                        induction kr with
                        | zero =>
                          intro q H locs ls hjk hW hl
                          have hjN : q = a := by omega
                          try rw [hjN] at hW
                          try rw [hjN] at hl
                          refine lv_iload hx hb dX4_digest_164 (lv_at hl 3 rfl) ?_
                          refine lv_aload_n hx hb dX4_digest_166 rfl (lv_at hl 0 rfl) ?_
                          refine lv_iload_n hx hb dX4_digest_167 rfl (lv_at hl 2 rfl) ?_
                          refine lv_iconst (v := 1) hx hb dX4_digest_168 (by decide) ?_
                          refine z_cVi (As := [.int (nI j), .int 1]) (rest := [.int (nI a)]) (k := 28) S hE hW (cX4_sl_ok l D n ad cy sa H.size hn (enc al 0) ex j (by omega) 1 (by omega)) (cwV 2 hts gX4_digest_X4_sl rfl rfl rfl (by decide +kernel) ⟨Nat.le_of_ble_eq_true rfl, Nat.le_of_ble_eq_true rfl⟩) (Nat.lt_of_lt_of_le (by decide) hn) cM_0 rfl rfl rfl hl.1 rfl (Nat.le_of_ble_eq_true rfl) dX4_digest_169 ⟨Nat.le_of_ble_eq_true rfl, Nat.le_of_ble_eq_true rfl⟩ (fun r _ H locs hp hW => ?_)
                          subst hp
                          refine z_top2 (y := nI a) ((r_s1 (by omega)).trans (ha)) ?_
                          refine lv_icmp_ge (tgt := 198) hx hb dX4_digest_172 (by decide) (fun _ => ?_) (fun h => absurd (nI_le (Nat.le_refl a) (by omega)) h)
                          have e9 : mixI (al (17 + j)) (mixI (fun r => v_told al (nI j) (nI r)) (foldD (dgS al) (foldD (dgL al) (dg2 al) 5) j) 6) a = dgS al j (foldD (dgS al) (foldD (dgL al) (dg2 al) 5) j) := by unfold dgS; rw [ha, ix_nI (show a < 2 ^ 31 by omega)]
                          rw [e9] at hl
                          refine lv_iinc (v := nI (j + 1)) (lv' := [(3, .int (nI (j + 1))), (0, .ref (ad 28)), (1, .long (dgS al j (foldD (dgS al) (foldD (dgL al) (dg2 al) 5) j))), (4, .int (nI a))]) hx hb dX4_digest_198 hl (k := 2) rfl (nI_1 _) (by decide) rfl (fun ls hl => ?_)
                          refine lv_goto (tgt := 122) hx hb dX4_digest_201 (by decide) ?_
                          exact ih (j + 1) H locs ls (by omega) hW (lv_sub hl [1, 2, 0] rfl)
                        | succ kr ih =>
                          intro q H locs ls hjk hW hl
                          have hj : q < a := by omega
                          refine lv_iload hx hb dX4_digest_164 (lv_at hl 3 rfl) ?_
                          refine lv_aload_n hx hb dX4_digest_166 rfl (lv_at hl 0 rfl) ?_
                          refine lv_iload_n hx hb dX4_digest_167 rfl (lv_at hl 2 rfl) ?_
                          refine lv_iconst (v := 1) hx hb dX4_digest_168 (by decide) ?_
                          refine z_cVi (As := [.int (nI j), .int 1]) (rest := [.int (nI q)]) (k := 28) S hE hW (cX4_sl_ok l D n ad cy sa H.size hn (enc al 0) ex j (by omega) 1 (by omega)) (cwV 2 hts gX4_digest_X4_sl rfl rfl rfl (by decide +kernel) ⟨Nat.le_of_ble_eq_true rfl, Nat.le_of_ble_eq_true rfl⟩) (Nat.lt_of_lt_of_le (by decide) hn) cM_0 rfl rfl rfl hl.1 rfl (Nat.le_of_ble_eq_true rfl) dX4_digest_169 ⟨Nat.le_of_ble_eq_true rfl, Nat.le_of_ble_eq_true rfl⟩ (fun r _ H locs hp hW => ?_)
                          subst hp
                          refine z_top2 (y := nI a) ((r_s1 (by omega)).trans (ha)) ?_
                          refine lv_icmp_ge (tgt := 198) hx hb dX4_digest_172 (by decide) (fun h => absurd h (nI_ge hj (by omega))) (fun _ => ?_)
                          refine lv_lload_n hx hb dX4_digest_175 rfl (lv_at hl 1 rfl) ?_
                          refine lv_ldc2 hx hb hown k152 dX4_digest_176 ?_
                          refine lv_lmul hx hb dX4_digest_179 ?_
                          refine lv_aload_n hx hb dX4_digest_180 rfl (lv_at hl 0 rfl) ?_
                          refine lv_iload_n hx hb dX4_digest_181 rfl (lv_at hl 2 rfl) ?_
                          refine lv_iconst (v := 4) hx hb dX4_digest_182 (by decide) ?_
                          refine lv_iload hx hb dX4_digest_183 (lv_at hl 3 rfl) ?_
                          refine lv_iadd hx hb dX4_digest_185 ?_
                          refine z_top2 (y := nI (4 + q)) (nI_add 4 q) ?_
                          refine z_cVi (As := [.int (nI j), .int (nI (4 + q))]) (rest := [.long (mixI (al (17 + j)) (mixI (fun r => v_told al (nI j) (nI r)) (foldD (dgS al) (foldD (dgL al) (dg2 al) 5) j) 6) q * 31)]) (k := 28) S hE hW (cX4_sl_ok l D n ad cy sa H.size hn (enc al 0) ex j (by omega) (4 + q) (by omega)) (cwV 2 hts gX4_digest_X4_sl rfl rfl rfl (by decide +kernel) ⟨Nat.le_of_ble_eq_true rfl, Nat.le_of_ble_eq_true rfl⟩) (Nat.lt_of_lt_of_le (by decide) hn) cM_0 rfl rfl rfl hl.1 rfl (Nat.le_of_ble_eq_true rfl) dX4_digest_186 ⟨Nat.le_of_ble_eq_true rfl, Nat.le_of_ble_eq_true rfl⟩ (fun r _ H locs hp hW => ?_)
                          subst hp
                          refine z_top2 (y := al (17 + j) q) (r_sw4 (k := q) (by omega) (by omega)) ?_
                          refine lv_i2l (v := (al (17 + j) q).toInt64) hx hb dX4_digest_189 rfl ?_
                          refine lv_ladd hx hb dX4_digest_190 ?_
                          refine lv_lstore_n (lv' := [(1, .long ((mixI (al (17 + j)) (mixI (fun r => v_told al (nI j) (nI r)) (foldD (dgS al) (foldD (dgL al) (dg2 al) 5) j) 6) q * 31) + (al (17 + j) q).toInt64)), (0, .ref (ad 28)), (3, .int (nI j)), (4, .int (nI q))]) hx hb dX4_digest_191 rfl hl (by decide) rfl (fun ls hl => ?_)
                          refine lv_iinc (v := nI (q + 1)) (lv' := [(4, .int (nI (q + 1))), (1, .long ((mixI (al (17 + j)) (mixI (fun r => v_told al (nI j) (nI r)) (foldD (dgS al) (foldD (dgL al) (dg2 al) 5) j) 6) q * 31) + (al (17 + j) q).toInt64)), (0, .ref (ad 28)), (3, .int (nI j))]) hx hb dX4_digest_192 hl (k := 3) rfl (nI_1 _) (by decide) rfl (fun ls hl => ?_)
                          refine lv_goto (tgt := 164) hx hb dX4_digest_195 (by decide) ?_
                          exact ih (q + 1) H locs ls (by omega) hW (lv_sub hl [2, 1, 3, 0] rfl)
                      exact L164 (a) 0 _ _ ls (by omega) hW (lv_sub hl [1, 2, 3, 0] rfl)
                    | succ kr ih =>
                      intro q H locs ls hjk hW hl
                      have hj : q < 6 := by omega
                      refine lv_iload hx hb dX4_digest_133 (lv_at hl 3 rfl) ?_
                      refine lv_bipush (v := 6) hx hb dX4_digest_135 (by decide) ?_
                      refine lv_icmp_ge (tgt := 161) hx hb dX4_digest_137 (by decide) (fun h => absurd h (nI_ge (b := 6) hj (by decide))) (fun _ => ?_)
                      refine lv_lload_n hx hb dX4_digest_140 rfl (lv_at hl 1 rfl) ?_
                      refine lv_ldc2 hx hb hown k152 dX4_digest_141 ?_
                      refine lv_lmul hx hb dX4_digest_144 ?_
                      refine lv_aload_n hx hb dX4_digest_145 rfl (lv_at hl 0 rfl) ?_
                      refine lv_iload_n hx hb dX4_digest_146 rfl (lv_at hl 2 rfl) ?_
                      refine lv_iload hx hb dX4_digest_147 (lv_at hl 3 rfl) ?_
                      refine z_cVi (As := [.int (nI j), .int (nI q)]) (rest := [.long (mixI (fun r => v_told al (nI j) (nI r)) (foldD (dgS al) (foldD (dgL al) (dg2 al) 5) j) q * 31)]) (k := 28) S hE hW (cX4_sledgeTold_ok l D n ad cy sa H.size hn al 0 ex N (hN) hN6 j (by omega) a ha (by omega) q (by omega)) (cwV 2 hts gX4_digest_X4_sledgeTold rfl rfl rfl (by decide +kernel) ⟨Nat.le_of_ble_eq_true rfl, Nat.le_of_ble_eq_true rfl⟩) (Nat.lt_of_lt_of_le (by decide) hn) cM_0 rfl rfl rfl hl.1 rfl (Nat.le_of_ble_eq_true rfl) dX4_digest_149 ⟨Nat.le_of_ble_eq_true rfl, Nat.le_of_ble_eq_true rfl⟩ (fun r _ H locs hp hW => ?_)
                      subst hp
                      refine lv_i2l (v := ((v_told al (nI j) (nI q))).toInt64) hx hb dX4_digest_152 rfl ?_
                      refine lv_ladd hx hb dX4_digest_153 ?_
                      refine lv_lstore_n (lv' := [(1, .long ((mixI (fun r => v_told al (nI j) (nI r)) (foldD (dgS al) (foldD (dgL al) (dg2 al) 5) j) q * 31) + ((v_told al (nI j) (nI q))).toInt64)), (0, .ref (ad 28)), (3, .int (nI j)), (4, .int (nI q))]) hx hb dX4_digest_154 rfl hl (by decide) rfl (fun ls hl => ?_)
                      refine lv_iinc (v := nI (q + 1)) (lv' := [(4, .int (nI (q + 1))), (1, .long ((mixI (fun r => v_told al (nI j) (nI r)) (foldD (dgS al) (foldD (dgL al) (dg2 al) 5) j) q * 31) + ((v_told al (nI j) (nI q))).toInt64)), (0, .ref (ad 28)), (3, .int (nI j))]) hx hb dX4_digest_155 hl (k := 3) rfl (nI_1 _) (by decide) rfl (fun ls hl => ?_)
                      refine lv_goto (tgt := 133) hx hb dX4_digest_158 (by decide) ?_
                      exact ih (q + 1) H locs ls (by omega) hW (lv_sub hl [2, 1, 3, 0] rfl)
                  exact L133 (6) 0 _ _ ls (by omega) hW (lv_sub hl [1, 2, 3, 0] rfl)
              exact L122 (N) 0 _ _ ls (by omega) hW (lv_sub hl [1, 2, 0] rfl)
            | succ kq ih =>
              intro j H locs ls hjk hW hl
              have hj : j < 5 := by omega
              have hj5 := hj
              refine lv_iload_n hx hb dX4_digest_79 rfl (lv_at hl 2 rfl) ?_
              refine lv_iconst (v := 5) hx hb dX4_digest_80 (by decide) ?_
              refine lv_icmp_ge (tgt := 120) hx hb dX4_digest_81 (by decide) (fun h => absurd h (nI_ge (b := 5) hj (by decide))) (fun _ => ?_)
              refine lv_iconst (v := 0) hx hb dX4_digest_84 (by decide) ?_
              refine lv_istore (lv' := [(4, .int 0), (0, .ref (ad 28)), (1, .long (foldD (dgL al) (dg2 al) j)), (3, .int (nI j))]) hx hb dX4_digest_85 hl (by decide) rfl (fun ls hl => ?_)
              have L87 : ∀ (kr q : Nat) (H : Heap) (locs : List Loc) (ls : Array Slot), q + kr = 4 → WS D n ad (cM cy ad (enc al 0) ex) (Acc n ad s.heap.size) s.heap H locs → lv_has ls 7 [(0, .ref (ad 28)), (1, .long (mixI (fun r => v_layer al (nI j) (nI r)) (foldD (dgL al) (dg2 al) j) q)), (3, .int (nI j)), (4, .int (nI q))] → W p l e { frames := 4, cells := 0, slots := 0, locals := 124 } s m args below meth c H locs 0 0 (MQ below (QDl D n ad s.heap.size (dig al) (cM cy ad (enc al 0) ex)) args s 0 0 (Acc n ad s.heap.size)) (F0 m 87 ls []) := by
                intro kr
                induction kr with
                | zero =>
                  intro q H locs ls hjk hW hl
                  have hjN : q = 4 := by omega
                  try rw [hjN] at hW
                  try rw [hjN] at hl
                  refine lv_iload hx hb dX4_digest_87 (lv_at hl 3 rfl) ?_
                  refine lv_iconst (v := 4) hx hb dX4_digest_89 (by decide) ?_
                  refine lv_icmp_ge (tgt := 114) hx hb dX4_digest_90 (by decide) (fun _ => ?_) (fun h => absurd (by decide) h)
                  refine lv_iinc (v := nI (j + 1)) (lv' := [(3, .int (nI (j + 1))), (0, .ref (ad 28)), (1, .long (mixI (fun r => v_layer al (nI j) (nI r)) (foldD (dgL al) (dg2 al) j) 4)), (4, .int (nI 4))]) hx hb dX4_digest_114 hl (k := 2) rfl (nI_1 _) (by decide) rfl (fun ls hl => ?_)
                  refine lv_goto (tgt := 79) hx hb dX4_digest_117 (by decide) ?_
                  exact ih (j + 1) H locs ls (by omega) hW (lv_sub hl [1, 2, 0] rfl)
                | succ kr ih =>
                  intro q H locs ls hjk hW hl
                  have hj : q < 4 := by omega
                  refine lv_iload hx hb dX4_digest_87 (lv_at hl 3 rfl) ?_
                  refine lv_iconst (v := 4) hx hb dX4_digest_89 (by decide) ?_
                  refine lv_icmp_ge (tgt := 114) hx hb dX4_digest_90 (by decide) (fun h => absurd h (nI_ge (b := 4) hj (by decide))) (fun _ => ?_)
                  refine lv_lload_n hx hb dX4_digest_93 rfl (lv_at hl 1 rfl) ?_
                  refine lv_ldc2 hx hb hown k152 dX4_digest_94 ?_
                  refine lv_lmul hx hb dX4_digest_97 ?_
                  refine lv_aload_n hx hb dX4_digest_98 rfl (lv_at hl 0 rfl) ?_
                  refine lv_iload_n hx hb dX4_digest_99 rfl (lv_at hl 2 rfl) ?_
                  refine lv_iload hx hb dX4_digest_100 (lv_at hl 3 rfl) ?_
                  refine z_cVi (As := [.int (nI j), .int (nI q)]) (rest := [.long (mixI (fun r => v_layer al (nI j) (nI r)) (foldD (dgL al) (dg2 al) j) q * 31)]) (k := 28) S hE hW (cX4_layerTold_ok l D n ad cy sa H.size hn al 0 ex j (by omega) q (by omega)) (cwV 2 hts gX4_digest_X4_layerTold rfl rfl rfl (by decide +kernel) ⟨Nat.le_of_ble_eq_true rfl, Nat.le_of_ble_eq_true rfl⟩) (Nat.lt_of_lt_of_le (by decide) hn) cM_0 rfl rfl rfl hl.1 rfl (Nat.le_of_ble_eq_true rfl) dX4_digest_102 ⟨Nat.le_of_ble_eq_true rfl, Nat.le_of_ble_eq_true rfl⟩ (fun r _ H locs hp hW => ?_)
                  subst hp
                  refine lv_i2l (v := ((v_layer al (nI j) (nI q))).toInt64) hx hb dX4_digest_105 rfl ?_
                  refine lv_ladd hx hb dX4_digest_106 ?_
                  refine lv_lstore_n (lv' := [(1, .long ((mixI (fun r => v_layer al (nI j) (nI r)) (foldD (dgL al) (dg2 al) j) q * 31) + ((v_layer al (nI j) (nI q))).toInt64)), (0, .ref (ad 28)), (3, .int (nI j)), (4, .int (nI q))]) hx hb dX4_digest_107 rfl hl (by decide) rfl (fun ls hl => ?_)
                  refine lv_iinc (v := nI (q + 1)) (lv' := [(4, .int (nI (q + 1))), (1, .long ((mixI (fun r => v_layer al (nI j) (nI r)) (foldD (dgL al) (dg2 al) j) q * 31) + ((v_layer al (nI j) (nI q))).toInt64)), (0, .ref (ad 28)), (3, .int (nI j))]) hx hb dX4_digest_108 hl (k := 3) rfl (nI_1 _) (by decide) rfl (fun ls hl => ?_)
                  refine lv_goto (tgt := 87) hx hb dX4_digest_111 (by decide) ?_
                  exact ih (q + 1) H locs ls (by omega) hW (lv_sub hl [2, 1, 3, 0] rfl)
              exact L87 (4) 0 _ _ ls (by omega) hW (lv_sub hl [1, 2, 3, 0] rfl)
          exact L79 (5) 0 _ _ ls (by omega) hW (lv_sub hl [1, 2, 0] rfl)
        | succ kq ih =>
          intro j H locs ls hjk hW hl
          have hj : j < 8 := by omega
          refine lv_iload hx hb dX4_digest_48 (lv_at hl 4 rfl) ?_
          refine lv_iload hx hb dX4_digest_50 (lv_at hl 3 rfl) ?_
          refine lv_icmp_ge (tgt := 77) hx hb dX4_digest_52 (by decide) (fun h => absurd h (nI_ge (b := 8) hj (by decide))) (fun _ => ?_)
          refine lv_aload_n hx hb dX4_digest_55 rfl (lv_at hl 2 rfl) ?_
          refine lv_iload hx hb dX4_digest_56 (lv_at hl 4 rfl) ?_
          refine z_ald S hE hW (Nat.lt_of_lt_of_le (by decide) hn) cM_3 j rfl (by omega) (by decide) (v := al 3 j) (r_gu) dX4_digest_58 ?_
          refine lv_istore (lv' := [(6, .int (al 3 j)), (0, .ref (ad 28)), (1, .long (mixI (al 3) (dg1 al) j)), (3, .ref (ad 31)), (4, .int 8), (5, .int (nI j))]) hx hb dX4_digest_59 hl (by decide) rfl (fun ls hl => ?_)
          refine lv_lload_n hx hb dX4_digest_61 rfl (lv_at hl 2 rfl) ?_
          refine lv_ldc2 hx hb hown k152 dX4_digest_62 ?_
          refine lv_lmul hx hb dX4_digest_65 ?_
          refine lv_iload hx hb dX4_digest_66 (lv_at hl 0 rfl) ?_
          refine lv_i2l (v := (al 3 j).toInt64) hx hb dX4_digest_68 rfl ?_
          refine lv_ladd hx hb dX4_digest_69 ?_
          refine lv_lstore_n (lv' := [(1, .long ((mixI (al 3) (dg1 al) j * 31) + (al 3 j).toInt64)), (6, .int (al 3 j)), (0, .ref (ad 28)), (3, .ref (ad 31)), (4, .int 8), (5, .int (nI j))]) hx hb dX4_digest_70 rfl hl (by decide) rfl (fun ls hl => ?_)
          refine lv_iinc (v := nI (j + 1)) (lv' := [(5, .int (nI (j + 1))), (1, .long ((mixI (al 3) (dg1 al) j * 31) + (al 3 j).toInt64)), (6, .int (al 3 j)), (0, .ref (ad 28)), (3, .ref (ad 31)), (4, .int 8)]) hx hb dX4_digest_71 hl (k := 5) rfl (nI_1 _) (by decide) rfl (fun ls hl => ?_)
          refine lv_goto (tgt := 48) hx hb dX4_digest_74 (by decide) ?_
          exact ih (j + 1) H locs ls (by omega) hW (lv_sub hl [3, 1, 4, 5, 0] rfl)
      exact L48 (8) 0 _ _ ls (by omega) hW (lv_sub hl [3, 4, 2, 1, 0] rfl)
    | succ kq ih =>
      intro j H locs ls hjk hW hl
      have hj : j < 9 := by omega
      refine lv_iload_n hx hb dX4_digest_11 rfl (lv_at hl 2 rfl) ?_
      refine lv_bipush (v := 9) hx hb dX4_digest_12 (by decide) ?_
      refine lv_icmp_ge (tgt := 36) hx hb dX4_digest_14 (by decide) (fun h => absurd h (nI_ge (b := 9) hj (by decide))) (fun _ => ?_)
      refine lv_lload_n hx hb dX4_digest_17 rfl (lv_at hl 1 rfl) ?_
      refine lv_ldc2 hx hb hown k152 dX4_digest_18 ?_
      refine lv_lmul hx hb dX4_digest_21 ?_
      refine lv_aload_n hx hb dX4_digest_22 rfl (lv_at hl 0 rfl) ?_
      refine lv_iload_n hx hb dX4_digest_23 rfl (lv_at hl 2 rfl) ?_
      refine z_cVi (As := [.int (nI j)]) (rest := [.long (mixI (fun q => v_count al (nI q)) 1321 j * 31)]) (k := 28) S hE hW (cX4_counted_ok l D n ad cy sa H.size hn al 0 ex N (hN) hN6 h (hh) (by omega) j (by omega)) (cwV 1 hts gX4_digest_X4_counted rfl rfl rfl (by decide +kernel) ⟨Nat.le_of_ble_eq_true rfl, Nat.le_of_ble_eq_true rfl⟩) (Nat.lt_of_lt_of_le (by decide) hn) cM_0 rfl rfl rfl hl.1 rfl (Nat.le_of_ble_eq_true rfl) dX4_digest_24 ⟨Nat.le_of_ble_eq_true rfl, Nat.le_of_ble_eq_true rfl⟩ (fun r _ H locs hp hW => ?_)
      subst hp
      refine lv_i2l (v := ((v_count al (nI j))).toInt64) hx hb dX4_digest_27 rfl ?_
      refine lv_ladd hx hb dX4_digest_28 ?_
      refine lv_lstore_n (lv' := [(1, .long ((mixI (fun q => v_count al (nI q)) 1321 j * 31) + ((v_count al (nI j))).toInt64)), (0, .ref (ad 28)), (3, .int (nI j))]) hx hb dX4_digest_29 rfl hl (by decide) rfl (fun ls hl => ?_)
      refine lv_iinc (v := nI (j + 1)) (lv' := [(3, .int (nI (j + 1))), (1, .long ((mixI (fun q => v_count al (nI q)) 1321 j * 31) + ((v_count al (nI j))).toInt64)), (0, .ref (ad 28))]) hx hb dX4_digest_30 hl (k := 2) rfl (nI_1 _) (by decide) rfl (fun ls hl => ?_)
      refine lv_goto (tgt := 11) hx hb dX4_digest_33 (by decide) ?_
      exact ih (j + 1) H locs ls (by omega) hW (lv_sub hl [2, 1, 0] rfl)
  exact L11 (9) 0 _ _ ls (by omega) hW (lv_sub hl [2, 1, 0] rfl)
