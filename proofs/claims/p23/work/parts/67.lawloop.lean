/-! The law's hours, one behind another, and its end. -/
section ZL
variable {p : Program} {l : Launch} {e : Env} {R : Room} {s : State} {m : MethodId} {args : Array Value} {below : List Frame} {meth : Method} {c : Code} {H : Heap} {locs : List Loc} {cells slots : Nat} {Q : State → Prop}
variable {cc : ByteArray} {nL : Nat} {Ts : List Cond} {own : String} {pc : Nat} {ls : Array Slot} {rest : List Value} {D : va_G} {n : Nat} {ad cy sa : Nat → Nat} {ce : Nat → va_E} {A : Nat → Prop}
theorem z_cVz {d0 : Drawn} (hd0 : s.drawn.sameBut d0 lw_cs) {C : String} {y : MethodName} {ws : List Cond} {rm : Room} {mc ms N index maxL k ci : Nat} {fs : List Value} {q : vw_C} {bytes : ByteArray} {ret : Option FieldType} {st0 As : List Value} (S : CallFix p m c cc nL (s.setDrawn d0) args Ts own) (hE : ZEnv D cy sa A (s.setDrawn d0)) (hW : WS D n ad ce A s.heap H locs) (hM : MetD lw_cs l y ws rm (PW D n ad cy sa H.size ce (.ref (ad k) :: As)) (va_Qi (fun r (_ : Unit) => r = 1) (fun _ _ => True) (Acc n ad H.size)) mc ms (Acc n ad H.size)) (cw : CallW R (s.setDrawn d0) args own C index y bytes maxL ret ws rm mc ms N) (hk : k < n) (he : ce k = .inr (ci, fs)) (hc : vwCl[ci]? = some q) (hq : q.1 = C) (hn : As.length = N) (hz : ls.size = nL) (hst : st0 = As.reverse ++ .ref (ad k) :: rest) (hr : (rest.map fun v => v.category).sum ≤ 8) (hdg : decode cc pc = .ok (.invokevirtual index, 3)) (hf : cells + mc ≤ R.cells ∧ slots + ms ≤ R.slots)
    (kk : ∀ (H1 : Heap) (locs1 : List Loc) (d1 : Drawn), s.drawn.sameBut d1 lw_cs → va_S A s.heap H1 locs1 → W p l e R (s.setDrawn d1) m args below meth c H1 locs1 (cells + mc) (slots + ms) Q (F0 m (pc + 3) ls (.int 1 :: rest))) : W p l e R (s.setDrawn d0) m args below meth c H locs cells slots Q (F0 m pc ls st0) :=
  va_calliD hd0 (va_runV_D (As := As) (rest := rest) S hM cw ⟨PW_blind, by rw [← hq]; exact z_recv (s := s.setDrawn d0) hE hW hk he hc, PW_at (s := s.setDrawn d0) hE hW⟩ rfl hn hz hst (lv_room hr) hdg hf) hW.2.2 (fun q _ h => WS.acc (H0 := s.heap) hE.2 hW q h) (WS.acc (H0 := s.heap) hE.2 hW) (fun r u t H1 locs1 ht hvm hp hB hz1 hk1 hS1 d1 hd1 => by subst hp; exact kk H1 locs1 d1 hd1 hS1)
end ZL
set_option maxHeartbeats 4000000 in
set_option maxRecDepth 100000 in
theorem law_end {p : Program} {e : Env} {s : State} {m : MethodId} {below : List Frame} {meth : Method} {c : Code} (l : Launch) {b N B h cells slots : Nat} {D : va_G} {ad cy sa : Nat → Nat} {al : Nat → Nat → Int32} {ex : Nat → va_E} {H : Heap} {locs : List Loc} {ls : Array Slot} {tv : Value} (hfl : l.stackTraces = false) (S : CallFix p m c cL_law 21 s #[Value.ref b] wsL_law RL) (hE : ZEnv D cy sa (fun q => s.heap.size ≤ q) s) (hr : meth.sig.returnType = ret) (hlk : meth.locks = false) (hcb : cells ≤ 100000) (hsb : slots ≤ 200000) (hI : InvT al N B h) (hh3 : h < 2 ^ 20) (hW : WS D (35 + 2 * N + B) ad (sW cy ad N B al al ex) (fun q => s.heap.size ≤ q) s.heap H locs) (hl : lv_has ls 21 [(3, tv), (2, .ref (ad 28)), (1, .ref (ad 0)), (0, .ref b)]) : W p l e room_1 s m #[Value.ref b] below meth c H locs cells slots (lw_Z below #[Value.ref b] s) (F0 m 948 ls []) := by
  have hx := S.1
  have hb := S.2.1
  refine lv_aload_n hx hb dL_law_948 rfl (lv_at hl 1 rfl) ?_
  refine lv_aload_n hx hb dL_law_949 rfl (lv_at hl 2 rfl) ?_
  refine W.base ?_
  have S1 : CallFix p m c cL_law 21 (s.setDrawn s.drawn) #[Value.ref b] wsL_law RL := ⟨S.1, S.2.1, S.2.2.1, S.2.2.2.1, dr_words S.2.2.2.2 s.drawn⟩
  have hE1 := hE.drawn s.drawn
  refine z_cVz (Drawn.sameBut.refl s.drawn lw_cs) (As := [.ref (ad 0)]) (rest := []) (k := 28) S1 hE1 hW (cX4_isSame_ok l D (35 + 2 * N + B) ad cy sa H.size N B h (Nat.le_refl _) al ex hI hh3 hfl) (cwV 1 S1.2.2.2.2 gL_law_X4_isSame rfl rfl rfl (by decide +kernel) ⟨Nat.le_of_ble_eq_true rfl, Nat.le_of_ble_eq_true rfl⟩) (by omega) sW_28 rfl rfl rfl hl.1 rfl (Nat.le_of_ble_eq_true rfl) dL_law_950 ⟨Nat.le_trans (m := 600000) (by omega) (Nat.le_of_ble_eq_true rfl), Nat.le_trans (m := 600000) (by omega) (Nat.le_of_ble_eq_true rfl)⟩ (fun H locs d1 hd1 hS => ?_)
  refine va_forget (fun q hq => hS.2.2 q hq) ?_
  refine W.widen (k := 600130) (n := 7301080) (by omega) (by omega) ?_
  exact lw_ret hd1 hx hb hr hlk dL_law_953
set_option maxHeartbeats 4000000 in
set_option maxRecDepth 100000 in
theorem law_hour {p : Program} {e : Env} {s : State} {m : MethodId} {args : Array Value} {below : List Frame} {meth : Method} {c : Code} (l : Launch) {b L N B h t cells slots : Nat} {xs : Nat → Int32} {D : va_G} {ad cy sa : Nat → Nat} {A : Nat → Prop} {Q : State → Prop} {al : Nat → Nat → Int32} {ex : Nat → va_E} {H : Heap} {locs : List Loc} {ls : Array Slot} (hfl : l.stackTraces = false) (hL : L ≤ 260) (S : CallFix p m c cL_law 21 s args wsL_law RL) (hE : ZEnv D cy sa A s) (hX : va_X b L xs s s.heap) (hbl : b < s.heap.size) (hbA : ¬ A b) (ht : t < 36) (hcb : cells ≤ 50000) (hsb : slots ≤ 100000) (hI : InvT al N B h) (hh3 : h < 2 ^ 20) (hW : WS D (35 + 2 * N + B) ad (sW cy ad N B al al ex) A s.heap H locs) (hl : lv_has ls 21 [(3, .int (nI t)), (2, .ref (ad 28)), (1, .ref (ad 0)), (0, .ref b)])
    (kk : ∀ (N B : Nat) (al : Nat → Nat → Int32) (ad : Nat → Nat) (H : Heap) (locs : List Loc) (ls : Array Slot), InvT al N B (h + 1) → WS D (35 + 2 * N + B) ad (sW cy ad N B al al ex) A s.heap H locs → lv_has ls 21 [(3, .int (nI (t + 1))), (2, .ref (ad 28)), (1, .ref (ad 0)), (0, .ref b)] → W p l e room_1 s m args below meth c H locs (cells + 176) (slots + 704) Q (F0 m 22 ls [])) :
    W p l e room_1 s m args below meth c H locs cells slots Q (F0 m 28 ls []) := by
  have hx := S.1
  have hb := S.2.1
  refine lw_S1 (a0 := ad) l hfl S hE (by omega) (by omega) hI hh3 rfl hX hbl hbA hL ht hW hl (fun N B al ad H locs ls hI hW hl => ?_)
  refine lw_S2 (a0 := ad) (L := L) (xs := xs) (N := N) (B := B) (h := h) (n0 := 35 + 2 * N + B) l hfl S hE (by omega) (by omega) hI hh3 rfl hW hl (fun cl ad H locs ls hAG hTI hW hl => ?_)
  refine lw_S3 (a0 := ad) (L := L) (xs := xs) (N := N) (B := B) (h := h) (n0 := 35 + 2 * N + B) l hfl S hE (by omega) (by omega) hI hh3 rfl (fun _ _ _ => rfl) hTI hAG hW hl (fun cl ad1 H locs ls hAG hTI ha0 hW hl => ?_)
  refine lw_S4 (a0 := ad) (L := L) (xs := xs) (N := N) (B := B) (h := h) (n0 := 35 + 2 * N + B) l hfl S hE (by omega) (by omega) hI hh3 rfl ha0 hTI hAG hW hl (fun cl H locs ls hAG hTI hW hl => ?_)
  refine lw_S5 (a0 := ad) (L := L) (xs := xs) (N := N) (B := B) (h := h) (n0 := 35 + 2 * N + B) l hfl S hE (by omega) (by omega) hI hh3 rfl ha0 hTI hAG hW hl (fun H locs ls hW hl => ?_)
  have hW2 := hr_end (n0 := 35 + 2 * N + B) (ex' := ex) rfl (by omega) hAG hI.1.1.2.1 hI.1.1.2.2.2.1 hW
  have hI2 := AG.invT hAG hTI (hI.hour (by omega))
  refine lv_iinc (v := nI (t + 1)) (lv' := [(3, .int (nI (t + 1))), (2, .ref (ad1 28)), (1, .ref (ad1 0)), (0, .ref b)]) hx hb dL_law_942 hl (k := 0) rfl (nI_add t 1) (by decide) rfl (fun ls hl => ?_)
  refine lv_goto (tgt := 22) hx hb dL_law_945 (by decide) ?_
  refine W.widen (k := cells + 176) (n := slots + 704) (by omega) (by omega) ?_
  exact kk N B cl ad1 H locs ls hI2 hW2 hl
set_option maxHeartbeats 4000000 in
set_option maxRecDepth 100000 in
theorem law_loop {p : Program} {e : Env} {s : State} {m : MethodId} {below : List Frame} {meth : Method} {c : Code} (l : Launch) {b L : Nat} {xs : Nat → Int32} {D : va_G} {cy sa : Nat → Nat} {ex : Nat → va_E} (hfl : l.stackTraces = false) (hL : L ≤ 260) (S : CallFix p m c cL_law 21 s #[Value.ref b] wsL_law RL) (hE : ZEnv D cy sa (fun q => s.heap.size ≤ q) s) (hX : va_X b L xs s s.heap) (hbl : b < s.heap.size) (hr : meth.sig.returnType = ret) (hlk : meth.locks = false) :
    ∀ (k t N B h : Nat) (al : Nat → Nat → Int32) (ad : Nat → Nat) (H : Heap) (locs : List Loc) (ls : Array Slot), t + k = 36 → InvT al N B h → h ≤ 36 + t → WS D (35 + 2 * N + B) ad (sW cy ad N B al al ex) (fun q => s.heap.size ≤ q) s.heap H locs → lv_has ls 21 [(3, .int (nI t)), (2, .ref (ad 28)), (1, .ref (ad 0)), (0, .ref b)] → W p l e room_1 s m #[Value.ref b] below meth c H locs (700 + 176 * t) (5000 + 704 * t) (lw_Z below #[Value.ref b] s) (F0 m 22 ls []) := by
  have hx := S.1
  have hb := S.2.1
  intro k
  induction k with
  | zero =>
    intro t N B h al ad H locs ls htk hI hh hW hl
    refine lv_iload_n hx hb dL_law_22 rfl (lv_at hl 0 rfl) ?_
    refine lv_bipush (v := 36) hx hb dL_law_23 (by decide) ?_
    refine lv_icmp_ge (tgt := 948) hx hb dL_law_25 (by decide) (fun _ => ?_) (fun c9 => absurd (show (36 : Int32) ≤ nI t from nI_le (a := 36) (by omega) (by omega)) c9)
    exact law_end l hfl S hE hr hlk (by omega) (by omega) hI (by omega) hW hl
  | succ k ih =>
    intro t N B h al ad H locs ls htk hI hh hW hl
    refine lv_iload_n hx hb dL_law_22 rfl (lv_at hl 0 rfl) ?_
    refine lv_bipush (v := 36) hx hb dL_law_23 (by decide) ?_
    refine lv_icmp_ge (tgt := 948) hx hb dL_law_25 (by decide) (fun c9 => absurd c9 (show ¬ (36 : Int32) ≤ nI t from nI_ge (b := 36) (by omega) (by decide))) (fun _ => ?_)
    exact law_hour l hfl hL S hE hX hbl (Nat.not_le.mpr hbl) (by omega) (by omega) (by omega) hI (by omega) hW hl (fun N B al ad H locs ls hI hW hl => ih (t + 1) N B (h + 1) al ad H locs ls (by omega) hI (by omega) hW hl)
