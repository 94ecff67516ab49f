/-! In the end all is as by hand. -/
theorem sm_drop {D : va_G} {cy ad : Nat → Nat} {n N B : Nat} {al be : Nat → Nat → Int32} {ex : Nat → va_E} {e : va_E} {A : Nat → Prop} {H0 H : Heap} {locs : List Loc} (hW : WS D (n + 1) ad (sW cy ad N B al be (cen ex n e)) A H0 H locs) : WS D n ad (sW cy ad N B al be ex) A H0 H locs :=
  WS_re (fun k => k) (fun k hk => ⟨by omega, rfl, vpe_of (sW_cen_n (by omega))⟩) (fun _ _ _ _ e => e) hW
theorem lay_eq {al : Nat → Nat → Int32} {j q : Nat} (hj : j < 5) (hq : q < 4) : (upd (upd (upd (upd (fun _ => 0) 0 (al 1 j)) 1 (al 2 j)) 2 (knd (10 * al 2 j))) 3 (al 1 j / 10)) q = v_layer al (nI j) (nI q) := by
  unfold v_layer
  rw [ix_nI (show j < 2 ^ 31 by omega)]
  rcases (show q = 0 ∨ q = 1 ∨ q = 2 ∨ q = 3 by omega) with rfl | rfl | rfl | rfl <;> rfl
theorem told_z {al : Nat → Nat → Int32} {i a q : Nat} (hi : i < 6) (ha : al (10 + i) 2 = nI a) (ha8 : a ≤ 8) (h0 : nI a = 0) (hq : q < 6) : (upd (upd (upd (upd (upd (upd (fun _ => 0) 0 (al (10 + i) 0)) 1 (nI a)) 2 (al (10 + i) 3)) 3 (al (10 + i) 4)) 4 (sumI (al (17 + i)) a)) 5 (-1)) q = v_told al (nI i) (nI q) := by
  unfold v_told
  rw [ix_nI (show i < 2 ^ 31 by omega), ha, ix_nI (show a < 2 ^ 31 by omega), if_pos (show nI a ≤ 0 by rw [h0]; decide)]
  rcases (show q = 0 ∨ q = 1 ∨ q = 2 ∨ q = 3 ∨ q = 4 ∨ q = 5 by omega) with rfl | rfl | rfl | rfl | rfl | rfl <;> rfl
theorem told_p {al : Nat → Nat → Int32} {i a q : Nat} (hi : i < 6) (ha : al (10 + i) 2 = nI a) (ha8 : a ≤ 8) (h0 : 0 < a) (hq : q < 6) : (upd (upd (upd (upd (upd (upd (fun _ => 0) 0 (al (10 + i) 0)) 1 (nI a)) 2 (al (10 + i) 3)) 3 (al (10 + i) 4)) 4 (sumI (al (17 + i)) a)) 5 (knd (al (17 + i) (a - 1)))) q = v_told al (nI i) (nI q) := by
  unfold v_told
  rw [ix_nI (show i < 2 ^ 31 by omega), ha, ix_nI (show a < 2 ^ 31 by omega), if_neg (nI_nle h0 (by omega))]
  rcases (show q = 0 ∨ q = 1 ∨ q = 2 ∨ q = 3 ∨ q = 4 ∨ q = 5 by omega) with rfl | rfl | rfl | rfl | rfl | rfl <;> rfl
theorem boat_eq {al : Nat → Nat → Int32} {B i q : Nat} {v : Int32} (hi : i < 4) (hbt : BT al B i) (hiB : i < B) (hv : v = if depL (al (24 + i) 1) (al (24 + i) 2) < 21 ∧ al (24 + i) 1 - al (24 + i) 2 < 101 ∧ al (24 + i) 2 - al (24 + i) 1 < 101 then 1 else 0) (hq : q < 7) : (upd (upd (upd (upd (upd (upd (upd (fun _ => 0) 0 (al (24 + i) 0)) 1 (al (24 + i) 1)) 2 (al (24 + i) 2)) 3 (al (24 + i) 1 - al (24 + i) 2)) 4 (depL (al (24 + i) 1) (al (24 + i) 2))) 5 v) 6 ((al (24 + i) 0 - al (24 + i) 1) - al (24 + i) 2)) q = v_boat al (nI i) (nI q) := by
  obtain ⟨L, f, t, h1, h2, h3, h4, h5⟩ := hbt
  have h8 := h4 hiB
  have e1 : depL (al (24 + i) 1) (al (24 + i) 2) = dep (al (24 + i) 1) (al (24 + i) 2) := by rw [h2, h3]; exact dep_same (by omega) (by omega)
  have e2 : (depL (al (24 + i) 1) (al (24 + i) 2) < 21 ∧ al (24 + i) 1 - al (24 + i) 2 < 101 ∧ al (24 + i) 2 - al (24 + i) 1 < 101) ↔ (¬ 20 < dep (al (24 + i) 1) (al (24 + i) 2) ∧ zIn (al (24 + i) 1 - al (24 + i) 2) (-100) 100) := by rw [h2, h3]; exact sail_same (by omega) (by omega)
  have e3 : v = if (¬ 20 < dep (al (24 + i) 1) (al (24 + i) 2) ∧ zIn (al (24 + i) 1 - al (24 + i) 2) (-100) 100) then 1 else 0 := by
    rw [hv]
    by_cases q1 : depL (al (24 + i) 1) (al (24 + i) 2) < 21 ∧ al (24 + i) 1 - al (24 + i) 2 < 101 ∧ al (24 + i) 2 - al (24 + i) 1 < 101
    · rw [if_pos q1, if_pos (e2.mp q1)]
    · rw [if_neg q1, if_neg (fun z => q1 (e2.mpr z))]
  unfold v_boat
  rw [ix_nI (show i < 2 ^ 31 by omega), e1, e3]
  rcases (show q = 0 ∨ q = 1 ∨ q = 2 ∨ q = 3 ∨ q = 4 ∨ q = 5 ∨ q = 6 by omega) with rfl | rfl | rfl | rfl | rfl | rfl | rfl <;> rfl
theorem cnt_eq {al : Nat → Nat → Int32} {N B h q : Nat} (hN : al 0 4 = nI N) (hN6 : N ≤ 6) (hB : al 0 6 = nI B) (hh : al 0 8 = nI h) (hh3 : h < 2 ^ 30) (hq : q < 9) : (upd (upd (upd (upd (upd (upd (upd (upd (upd (fun _ => 0) 0 (al 0 8)) 1 (al 3 (h % 8))) 2 (nI N)) 3 (nI B)) 4 (al 0 9)) 5 (sumI (fun i => al (10 + i) 2) N)) 6 ((al (8 + 0) 0 + al (8 + 0) 1) + al (8 + 0) 2)) 7 (al (6 + 0) 1)) 8 (sumI (al 1) 5)) q = v_count al (nI q) := by
  unfold v_count
  rw [hN, hB, hh, ix_nI (show N < 2 ^ 31 by omega), ix_nI (show h < 2 ^ 31 by omega)]
  rcases (show q = 0 ∨ q = 1 ∨ q = 2 ∨ q = 3 ∨ q = 4 ∨ q = 5 ∨ q = 6 ∨ q = 7 ∨ q = 8 by omega) with rfl | rfl | rfl | rfl | rfl | rfl | rfl | rfl | rfl <;> rfl
theorem nan_val9 {a : UInt64} (h : isNaN64 a = true) : FP.Core.val64 a = .nan := by
  have h1 := isNaN64_iff.mp h
  rw [show (0x7fffffffffffffff : Nat) = 2 ^ 63 - 1 from rfl, Nat.and_two_pow_sub_one_eq_mod] at h1
  show FP.Core.decode FP.Core.b64 a.toNat = .nan
  unfold FP.Core.decode
  rw [if_pos, if_neg]
  · show ¬ a.toNat % 2 ^ 52 = 0
    omega
  · show a.toNat / 2 ^ 52 % 2 ^ 11 = 2 ^ 11 - 1
    omega
theorem mn_num {W A : Int32} (h : A ≠ 0) : FP.Core.val64 (FP.ddiv (FP.i2d W) (FP.i2d A)) ≠ .nan :=
  (FP.Core.notNaN_iff _).mp (FP.Core.ddiv_out ((FP.Core.notNaN_iff _).mpr (FP.Core.i2d_fin W).ne_nan) (FP.Core.i2d_fin A) (fun z => FP.Core.i2d_ne_zero h ((FP.Core.zero_bits2 _).mp z)))
theorem al_num {r v : UInt64} (hv : FP.Core.val64 v ≠ .nan) (h : alike64 r v = true) : r = v := by
  unfold alike64 at h
  rcases (Bool.or_eq_true _ _).mp h with q | q
  · exact of_decide_eq_true q
  · exact absurd (nan_val9 ((Bool.and_eq_true _ _).mp q).2) hv
theorem cmp_num {v : UInt64} (hv : FP.Core.val64 v ≠ .nan) : Op.cmpValue (FP.dcmp v v) .l = 0 := by
  rw [show FP.dcmp v v = some .eq from FP.Core.dcmp_self hv]
  rfl

section LMD
variable {p : Program} {l : Launch} {e : Env} {R : Room} {s : State} {m : MethodId} {args : Array Value} {below : List Frame} {meth : Method} {c : Code} {H : Heap} {locs : List Loc} {cells slots : Nat} {Q : State → Prop}
variable {cc : ByteArray} {nL n2 : Nat} {ad2 : Nat → Nat} {Ts : List Cond} {own : String} {pc : Nat} {ls : Array Slot} {rest : List Value} {D : va_G} {n : Nat} {ad cy sa : Nat → Nat} {ce ce' : Nat → va_E} {A : Nat → Prop}
theorem z_cVd {d0 : Drawn} (hd0 : s.drawn.sameBut d0 lw_cs) {St : Type} {post : UInt64 → St → Prop} {ceF : St → Nat → va_E} {C : String} {y : MethodName} {ws : List Cond} {rm : Room} {mc ms N index maxL k ci : Nat} {fs : List Value} {q : vw_C} {bytes : ByteArray} {ret : Option FieldType} {st0 As : List Value} (S : CallFix p m c cc nL (s.setDrawn d0) args Ts own) (hE : ZEnv D cy sa A (s.setDrawn d0)) (hW : WS D n ad ce A s.heap H locs) (hM : MetD lw_cs l y ws rm (PW D n ad cy sa H.size ce (.ref (ad k) :: As)) (QWd D n ad H.size post ceF) mc ms (Acc n ad H.size)) (cw : CallW R (s.setDrawn d0) args own C index y bytes maxL ret ws rm mc ms N) (hk : k < n) (he : ce k = .inr (ci, fs)) (hc : vwCl[ci]? = some q) (hq : q.1 = C) (hn : As.length = N) (hz : ls.size = nL) (hst : st0 = As.reverse ++ .ref (ad k) :: rest) (hr : (rest.map fun v => v.category).sum ≤ 8) (hdg : decode cc pc = .ok (.invokevirtual index, 3)) (hf : cells + mc ≤ R.cells ∧ slots + ms ≤ R.slots)
    (kk : ∀ (r : UInt64) (u : St) (H1 : Heap) (locs1 : List Loc) (d1 : Drawn), s.drawn.sameBut d1 lw_cs → post r u → WS D n ad (ceF u) A s.heap H1 locs1 → W p l e R (s.setDrawn d1) m args below meth c H1 locs1 (cells + mc) (slots + ms) Q (F0 m (pc + 3) ls (.double r :: rest))) : W p l e R (s.setDrawn d0) m args below meth c H locs cells slots Q (F0 m pc ls st0) :=
  va_calldD hd0 (va_runV_D (As := As) (rest := rest) S hM cw ⟨PW_blind, by rw [← hq]; exact z_recv (s := s.setDrawn d0) hE hW hk he hc, PW_at (s := s.setDrawn d0) hE hW⟩ rfl hn hz hst (lv_room hr) hdg hf) hW.2.2 (fun q _ h => WS.acc (H0 := s.heap) hE.2 hW q h) (WS.acc (H0 := s.heap) hE.2 hW) (fun r u t H1 locs1 ht hvm hp hB hz1 hk1 hS1 d1 hd1 => kk r u H1 locs1 d1 hd1 hp ⟨by rw [← ht]; exact hB, wL_D hW.2.1, hS1⟩)
theorem zd_z {d1 : Drawn} {mc ms : Nat} {v : Int32} (S : CallFix p m c cc nL s args Ts own) (hW : WS D n ad ce (Acc n2 ad2 s.heap.size) s.heap H locs) (hr : meth.sig.returnType = some .boolean) (hlk : meth.locks = false) (hd1 : s.drawn.sameBut d1 lw_cs) (hv : v = 1) (h1 : cells ≤ mc) (h2 : slots ≤ ms) (hdg : decode cc pc = .ok (.ireturn, 1)) :
    W p l e R (s.setDrawn d1) m args below meth c H locs cells slots (MQD lw_cs below (va_Qi (fun r (_ : Unit) => r = 1) (fun _ _ => True) (Acc n2 ad2 s.heap.size)) args s mc ms (Acc n2 ad2 s.heap.size)) (F0 m pc ls [.int v]) := by
  subst hv
  refine W.endD hd1 ?_
  refine W.widen h1 h2 ?_
  exact W.zret S.1 S.2.1 hr (by decide) (fun t ht _ => ⟨⟨1, (), rfl, rfl, trivial⟩, hW.2.2.F ht⟩) hW.2.2.2.2 hdg hlk
end LMD

set_option maxHeartbeats 4000000 in
set_option maxRecDepth 100000 in
theorem sm_F {p : Program} (l : Launch) {e : Env} {s : State} {m : MethodId} {args : Array Value} {below : List Frame} {meth : Method} {c : Code} {D : va_G} {n : Nat} {ad ad1 cy sa : Nat → Nat} {N B h : Nat} {al : Nat → Nat → Int32} {ex : Nat → va_E} {H : Heap} {locs : List Loc} {ls : Array Slot} (hfl : l.stackTraces = false) (S : CallFix p m c cX4_isSame 9 s args wsX4_isSame RX4) (hd0 : s.drawn.sameBut s.drawn lw_cs) (hE : ZEnv D cy sa (Acc n ad s.heap.size) s) (hr : meth.sig.returnType = some .boolean) (hlk : meth.locks = false) (hI : InvT al N B h) (hh3 : h < 2 ^ 20) (hn : 35 + 2 * N + B ≤ n) (hW : WS D n ad1 (sW cy ad1 N B al al ex) (Acc n ad s.heap.size) s.heap H locs) (hl : lv_has ls 9 [(0, .ref (ad1 28)), (1, .ref (ad1 0)), (3, .int (mnW al N))]) : W p l e ({ frames := 7, cells := 19, slots := 111, locals := 144 }) s m args below meth c H locs 19 111 (MQD lw_cs below (va_Qi (fun r (_ : Unit) => r = 1) (fun _ _ => True) (Acc n ad s.heap.size)) args s 19 111 (Acc n ad s.heap.size)) (F0 m 555 ls []) := by
  have hx := S.1
  have hb := S.2.1
  have hown := S.2.2.2.1
  have hts := S.2.2.2.2
  have hN := hI.1.1.1
  have hN6 := hI.1.1.2.1
  have hB := hI.1.1.2.2.1
  have hB4 := hI.1.1.2.2.2.1
  have hh := hI.1.1.2.2.2.2
  have hab := hI.1.ab
  refine W.base ?_
  refine lv_aload_n hx hb dX4_isSame_555 rfl (lv_at hl 1 rfl) ?_
  refine z_cVd hd0 (As := []) (rest := []) (k := 0) S hE hW (cX3_mean_ok l D n ad1 cy sa H.size (by omega) al _ N hN hN6 hab) (cwV 0 hts gX4_isSame_X3_mean rfl rfl rfl (by decide +kernel) ⟨Nat.le_of_ble_eq_true rfl, Nat.le_of_ble_eq_true rfl⟩) (by omega) cC_0 rfl rfl rfl hl.1 rfl (Nat.le_of_ble_eq_true rfl) dX4_isSame_556 ⟨Nat.le_of_ble_eq_true rfl, Nat.le_of_ble_eq_true rfl⟩ (fun r1 _ H locs d1 hd1 hp1 hW => ?_)
  refine lv_aload_n hx hb dX4_isSame_559 rfl (lv_at hl 0 rfl) ?_
  refine z_cVi (As := []) (rest := [.double r1]) (k := 28) ⟨S.1, S.2.1, S.2.2.1, S.2.2.2.1, dr_words hts d1⟩ (hE.drawn d1) hW (cX4_aboard_ok l D n ad1 cy sa H.size N B hn hN6 hB4 al al ex (fun i hi => hab i (by omega))) (cwV 0 (dr_words hts d1) gX4_isSame_X4_aboard rfl rfl rfl (by decide +kernel) ⟨Nat.le_of_ble_eq_true rfl, Nat.le_of_ble_eq_true rfl⟩) (by omega) sW_28 rfl rfl rfl hl.1 rfl (Nat.le_of_ble_eq_true rfl) dX4_isSame_560 ⟨Nat.le_of_ble_eq_true rfl, Nat.le_of_ble_eq_true rfl⟩ (fun r9 _ H locs hp9 hW => ?_)
  subst hp9
  unfold mnP at hp1
  refine lv_if_ne (tgt := 570) hx hb dX4_isSame_563 (by decide) (fun c5 => ?_) (fun c5 => ?_)
  · have hA0 : ¬ mnA al N = 0 := c5
    rw [if_neg hA0] at hp1
    refine lv_iload_n hx hb dX4_isSame_570 rfl (lv_at hl 2 rfl) ?_
    refine lv_i2d hx hb dX4_isSame_571 ?_
    refine lv_aload_n hx hb dX4_isSame_572 rfl (lv_at hl 0 rfl) ?_
    refine z_cVi (As := []) (rest := [.double (FP.i2d (mnW al N)), .double r1]) (k := 28) ⟨S.1, S.2.1, S.2.2.1, S.2.2.2.1, dr_words hts d1⟩ (hE.drawn d1) hW (cX4_aboard_ok l D n ad1 cy sa H.size N B hn hN6 hB4 al al ex (fun i hi => hab i (by omega))) (cwV 0 (dr_words hts d1) gX4_isSame_X4_aboard rfl rfl rfl (by decide +kernel) ⟨Nat.le_of_ble_eq_true rfl, Nat.le_of_ble_eq_true rfl⟩) (by omega) sW_28 rfl rfl rfl hl.1 rfl (Nat.le_of_ble_eq_true rfl) dX4_isSame_573 ⟨Nat.le_of_ble_eq_true rfl, Nat.le_of_ble_eq_true rfl⟩ (fun r8 _ H locs hp8 hW => ?_)
    subst hp8
    refine lv_i2d hx hb dX4_isSame_576 ?_
    refine lv_ddiv_any hd1 lw_bits hx hb dX4_isSame_577 (fun r2 d2 hal hd2 => ?_)
    have hv := mn_num (W := mnW al N) hA0
    have e1 := al_num hv hp1
    have e2 : r2 = _ := al_num hv hal
    subst e1
    subst e2
    have hza : Op.cmpValue (FP.dcmp _ _) .l = 0 := cmp_num hv
    refine lv_dcmp hx hb dX4_isSame_578 ?_
    refine lv_if_ne (tgt := 586) hx hb dX4_isSame_579 (by decide) (fun q => absurd hza q) (fun _ => ?_)
    refine lv_iconst (v := 1) hx hb dX4_isSame_582 (by decide) ?_
    refine lv_goto (tgt := 587) hx hb dX4_isSame_583 (by decide) ?_
    exact zd_z S hW hr hlk hd2 rfl (Nat.le_of_ble_eq_true rfl) (Nat.le_of_ble_eq_true rfl) dX4_isSame_587

  · have hA0 : mnA al N = 0 := c5
    rw [if_pos hA0] at hp1
    subst hp1
    refine lv_dconst0 hx hb dX4_isSame_566 ?_
    refine lv_goto (tgt := 578) hx hb dX4_isSame_567 (by decide) ?_
    have hzb : Op.cmpValue (FP.dcmp FP.dconst0 FP.dconst0) .l = 0 := by decide +kernel
    refine lv_dcmp hx hb dX4_isSame_578 ?_
    refine lv_if_ne (tgt := 586) hx hb dX4_isSame_579 (by decide) (fun q => absurd hzb q) (fun _ => ?_)
    refine lv_iconst (v := 1) hx hb dX4_isSame_582 (by decide) ?_
    refine lv_goto (tgt := 587) hx hb dX4_isSame_583 (by decide) ?_
    exact zd_z S hW hr hlk hd1 rfl (Nat.le_of_ble_eq_true rfl) (Nat.le_of_ble_eq_true rfl) dX4_isSame_587

theorem k0_beach {al : Nat → Nat → Int32} {j : Nat} (h : j < 3) : k_beach al (nI j) = 0 := by
  unfold k_beach
  rw [if_neg (fun z => z (zin_nI (lo := 0) (hi := 2) (by omega) (by omega) (by decide)))]

set_option maxHeartbeats 8000000 in
set_option maxRecDepth 100000 in
theorem sm_E {p : Program} (l : Launch) {e : Env} {s : State} {m : MethodId} {args : Array Value} {below : List Frame} {meth : Method} {c : Code} {D : va_G} {n : Nat} {ad ad1 cy sa : Nat → Nat} {N B h : Nat} {al : Nat → Nat → Int32} {ex : Nat → va_E} {H : Heap} {locs : List Loc} {ls : Array Slot} (hfl : l.stackTraces = false) (S : CallFix p m c cX4_isSame 9 s args wsX4_isSame RX4) (hd0 : s.drawn.sameBut s.drawn lw_cs) (hE : ZEnv D cy sa (Acc n ad s.heap.size) s) (hr : meth.sig.returnType = some .boolean) (hlk : meth.locks = false) (hI : InvT al N B h) (hh3 : h < 2 ^ 20) (hn : 35 + 2 * N + B ≤ n) (hW : WS D n ad1 (sW cy ad1 N B al al ex) (Acc n ad s.heap.size) s.heap H locs) (hl : lv_has ls 9 [(0, .ref (ad1 28)), (1, .ref (ad1 0)), (2, .int (sumI (al 1) 5)), (3, .int (mnW al N))]) : W p l e ({ frames := 7, cells := 19, slots := 111, locals := 144 }) s m args below meth c H locs 18 102 (MQD lw_cs below (va_Qi (fun r (_ : Unit) => r = 1) (fun _ _ => True) (Acc n ad s.heap.size)) args s 19 111 (Acc n ad s.heap.size)) (F0 m 444 ls []) := by
  have hx := S.1
  have hb := S.2.1
  have hown := S.2.2.2.1
  have hts := S.2.2.2.2
  have hN := hI.1.1.1
  have hN6 := hI.1.1.2.1
  have hB := hI.1.1.2.2.1
  have hB4 := hI.1.1.2.2.2.1
  have hh := hI.1.1.2.2.2.2
  have hab := hI.1.ab
  have har := hts (.arrayClass .int) (by decide +kernel)
  have f42 := hts (.fieldLink RX4 42 "PumiceSledgeLaw$Sim" "hour" "I") (by decide +kernel)
  have hi4 : ∀ w ∈ wsX40, w ∈ wsX4_isSame := by decide +kernel
  have f16 := hts (.fieldLink RX4 16 "PumiceSledgeLaw$Sim" "gusts" "[I") (by decide +kernel)
  have f21 := hts (.fieldLink RX4 21 "PumiceSledgeLaw$Sim" "sledges" "[LPumiceSledgeLaw$Sledge;") (by decide +kernel)
  have f26 := hts (.fieldLink RX4 26 "PumiceSledgeLaw$Sim" "boats" "[[I") (by decide +kernel)
  have f98 := hts (.fieldLink RX4 98 "PumiceSledgeLaw$Sim" "coins" "I") (by decide +kernel)
  have f46 := hts (.fieldLink RX4 46 "PumiceSledgeLaw$Sim" "fell" "I") (by decide +kernel)
  refine lv_bipush (v := 9) hx hb dX4_isSame_444 (by decide) ?_
  refine z_newI (M := 9) S hE (by omega) hW har rfl (by decide) (by dsimp only; omega) (by dsimp only; omega) dX4_isSame_446 (fun ad3 H had3 hW => ?_)
  replace hl : lv_has ls 9 [(0, .ref (ad3 28)), (1, .ref (ad3 0)), (2, .int (sumI (al 1) 5)), (3, .int (mnW al N))] := by
    rw [had3 28 (by omega), had3 0 (by omega)]; exact hl
  refine lv_dup hx hb dX4_isSame_448 rfl ?_
  refine lv_iconst (v := 0) hx hb dX4_isSame_449 (by decide) ?_
  refine lv_aload_n hx hb dX4_isSame_450 rfl (lv_at hl 0 rfl) ?_
  refine z_get (C := RX4) (T := TX4) (N := 9) (ci := 4) S hE hW hi4 rfl (by omega) sW_28 6 (by decide) rfl f42 (v := .int (al 0 8)) rfl dX4_isSame_451 ?_
  refine z_ast (ce' := sW cy ad3 N B al al (cen ex n (.inl (cy 0, 9, .inl (upd (fun _ => 0) 0 (al 0 8)))))) S hE hW (by omega) ((sW_x (by omega)).trans cen_k) 0 rfl (by decide) (by decide) ((sW_x (by omega)).trans cen_k) (fun j h => sW_ext (cen_oo h)) dX4_isSame_454 (fun H locs hW => ?_)
  refine lv_dup hx hb dX4_isSame_455 rfl ?_
  refine lv_iconst (v := 1) hx hb dX4_isSame_456 (by decide) ?_
  refine lv_aload_n hx hb dX4_isSame_457 rfl (lv_at hl 0 rfl) ?_
  refine z_get (C := RX4) (T := TX4) (N := 9) (ci := 4) S hE hW hi4 rfl (by omega) sW_28 2 (by decide) rfl f16 (v := .ref (ad3 31)) rfl dX4_isSame_458 ?_
  refine lv_aload_n hx hb dX4_isSame_461 rfl (lv_at hl 0 rfl) ?_
  refine z_get (C := RX4) (T := TX4) (N := 9) (ci := 4) S hE hW hi4 rfl (by omega) sW_28 6 (by decide) rfl f42 (v := .int (al 0 8)) rfl dX4_isSame_462 ?_
  refine lv_bipush (v := 8) hx hb dX4_isSame_465 (by decide) ?_
  refine lv_irem hx hb dX4_isSame_467 (by decide) ?_
  refine z_top2 (y := nI (h % 8)) (by rw [hh]; exact pk_rem (by omega) (by decide) (by decide)) ?_
  refine z_ald S hE hW (by omega) sW_31 (h % 8) rfl (by first | omega | exact blN_lt (by omega) (by omega)) (by decide) (v := al 3 (h % 8)) rfl dX4_isSame_468 ?_
  refine z_ast (ce' := sW cy ad3 N B al al (cen ex n (.inl (cy 0, 9, .inl (upd (upd (fun _ => 0) 0 (al 0 8)) 1 (al 3 (h % 8))))))) S hE hW (by omega) ((sW_x (by omega)).trans cen_k) 1 rfl (by decide) (by decide) ((sW_x (by omega)).trans cen_k) (fun j h => sW_ext (cen_oo h)) dX4_isSame_469 (fun H locs hW => ?_)
  refine lv_dup hx hb dX4_isSame_470 rfl ?_
  refine lv_iconst (v := 2) hx hb dX4_isSame_471 (by decide) ?_
  refine lv_aload_n hx hb dX4_isSame_472 rfl (lv_at hl 0 rfl) ?_
  refine z_get (C := RX4) (T := TX4) (N := 9) (ci := 4) S hE hW hi4 rfl (by omega) sW_28 3 (by decide) rfl f21 (v := .ref (ad3 33)) rfl dX4_isSame_473 ?_
  refine z_alenG (t0 := 4) S hE hW (by omega) sW_33 rfl (v := nI N) rfl dX4_isSame_476 ?_
  refine z_ast (ce' := sW cy ad3 N B al al (cen ex n (.inl (cy 0, 9, .inl (upd (upd (upd (fun _ => 0) 0 (al 0 8)) 1 (al 3 (h % 8))) 2 (nI N)))))) S hE hW (by omega) ((sW_x (by omega)).trans cen_k) 2 rfl (by decide) (by decide) ((sW_x (by omega)).trans cen_k) (fun j h => sW_ext (cen_oo h)) dX4_isSame_477 (fun H locs hW => ?_)
  refine lv_dup hx hb dX4_isSame_478 rfl ?_
  refine lv_iconst (v := 3) hx hb dX4_isSame_479 (by decide) ?_
  refine lv_aload_n hx hb dX4_isSame_480 rfl (lv_at hl 0 rfl) ?_
  refine z_get (C := RX4) (T := TX4) (N := 9) (ci := 4) S hE hW hi4 rfl (by omega) sW_28 4 (by decide) rfl f26 (v := .ref (ad3 34)) rfl dX4_isSame_481 ?_
  refine z_alenG (t0 := 3) S hE hW (by omega) sW_34 rfl (v := nI B) rfl dX4_isSame_484 ?_
  refine z_ast (ce' := sW cy ad3 N B al al (cen ex n (.inl (cy 0, 9, .inl (upd (upd (upd (upd (fun _ => 0) 0 (al 0 8)) 1 (al 3 (h % 8))) 2 (nI N)) 3 (nI B)))))) S hE hW (by omega) ((sW_x (by omega)).trans cen_k) 3 rfl (by decide) (by decide) ((sW_x (by omega)).trans cen_k) (fun j h => sW_ext (cen_oo h)) dX4_isSame_485 (fun H locs hW => ?_)
  refine lv_dup hx hb dX4_isSame_486 rfl ?_
  refine lv_iconst (v := 4) hx hb dX4_isSame_487 (by decide) ?_
  refine lv_aload_n hx hb dX4_isSame_488 rfl (lv_at hl 0 rfl) ?_
  refine z_get (C := RX4) (T := TX4) (N := 9) (ci := 4) S hE hW hi4 rfl (by omega) sW_28 7 (by decide) rfl f98 (v := .int (al 0 9)) rfl dX4_isSame_489 ?_
  refine z_ast (ce' := sW cy ad3 N B al al (cen ex n (.inl (cy 0, 9, .inl (upd (upd (upd (upd (upd (fun _ => 0) 0 (al 0 8)) 1 (al 3 (h % 8))) 2 (nI N)) 3 (nI B)) 4 (al 0 9)))))) S hE hW (by omega) ((sW_x (by omega)).trans cen_k) 4 rfl (by decide) (by decide) ((sW_x (by omega)).trans cen_k) (fun j h => sW_ext (cen_oo h)) dX4_isSame_492 (fun H locs hW => ?_)
  refine lv_dup hx hb dX4_isSame_493 rfl ?_
  refine lv_iconst (v := 5) hx hb dX4_isSame_494 (by decide) ?_
  refine lv_aload_n hx hb dX4_isSame_495 rfl (lv_at hl 0 rfl) ?_
  refine z_cVi (As := []) (rest := [.int 5, .ref (ad3 n), .ref (ad3 n)]) (k := 28) S hE hW (cX4_aboard_ok l D (n + 1) ad3 cy sa H.size N B (by omega) (by omega) (by omega) al al (cen ex n (.inl (cy 0, 9, .inl (upd (upd (upd (upd (upd (fun _ => 0) 0 (al 0 8)) 1 (al 3 (h % 8))) 2 (nI N)) 3 (nI B)) 4 (al 0 9))))) (fun i hi => hab i (by omega))) (cwV 0 hts gX4_isSame_X4_aboard rfl rfl rfl (by decide +kernel) ⟨Nat.le_of_ble_eq_true rfl, Nat.le_of_ble_eq_true rfl⟩) (by omega) sW_28 rfl rfl rfl hl.1 rfl (Nat.le_of_ble_eq_true rfl) dX4_isSame_496 ⟨(by dsimp only; omega), (by dsimp only; omega)⟩ (fun r _ H locs hp hW => ?_)
  subst hp
  refine z_ast (ce' := sW cy ad3 N B al al (cen ex n (.inl (cy 0, 9, .inl (upd (upd (upd (upd (upd (upd (fun _ => 0) 0 (al 0 8)) 1 (al 3 (h % 8))) 2 (nI N)) 3 (nI B)) 4 (al 0 9)) 5 (sumI (fun i => al (10 + i) 2) N)))))) S hE hW (by omega) ((sW_x (by omega)).trans cen_k) 5 rfl (by decide) (by decide) ((sW_x (by omega)).trans cen_k) (fun j h => sW_ext (cen_oo h)) dX4_isSame_499 (fun H locs hW => ?_)
  refine lv_dup hx hb dX4_isSame_500 rfl ?_
  refine lv_bipush (v := 6) hx hb dX4_isSame_501 (by decide) ?_
  refine lv_aload_n hx hb dX4_isSame_503 rfl (lv_at hl 0 rfl) ?_
  refine z_cVi (As := []) (rest := [.int 6, .ref (ad3 n), .ref (ad3 n)]) (k := 28) S hE hW (cX4_ashore_ok l D (n + 1) ad3 cy sa H.size N B (by omega) (by omega) (by omega) al al (cen ex n (.inl (cy 0, 9, .inl (upd (upd (upd (upd (upd (upd (fun _ => 0) 0 (al 0 8)) 1 (al 3 (h % 8))) 2 (nI N)) 3 (nI B)) 4 (al 0 9)) 5 (sumI (fun i => al (10 + i) 2) N))))) ) (cwV 0 hts gX4_isSame_X4_ashore rfl rfl rfl (by decide +kernel) ⟨Nat.le_of_ble_eq_true rfl, Nat.le_of_ble_eq_true rfl⟩) (by omega) sW_28 rfl rfl rfl hl.1 rfl (Nat.le_of_ble_eq_true rfl) dX4_isSame_504 ⟨(by dsimp only; omega), (by dsimp only; omega)⟩ (fun r _ H locs hp hW => ?_)
  subst hp
  refine z_ast (ce' := sW cy ad3 N B al al (cen ex n (.inl (cy 0, 9, .inl (upd (upd (upd (upd (upd (upd (upd (fun _ => 0) 0 (al 0 8)) 1 (al 3 (h % 8))) 2 (nI N)) 3 (nI B)) 4 (al 0 9)) 5 (sumI (fun i => al (10 + i) 2) N)) 6 ((al (8 + 0) 0 + al (8 + 0) 1) + al (8 + 0) 2)))))) S hE hW (by omega) ((sW_x (by omega)).trans cen_k) 6 rfl (by decide) (by decide) ((sW_x (by omega)).trans cen_k) (fun j h => sW_ext (cen_oo h)) dX4_isSame_507 (fun H locs hW => ?_)
  refine lv_dup hx hb dX4_isSame_508 rfl ?_
  refine lv_bipush (v := 7) hx hb dX4_isSame_509 (by decide) ?_
  refine lv_aload_n hx hb dX4_isSame_511 rfl (lv_at hl 0 rfl) ?_
  refine z_get (C := RX4) (T := TX4) (N := 9) (ci := 4) S hE hW hi4 rfl (by omega) sW_28 8 (by decide) rfl f46 (v := .int (al (6 + 0) 1)) rfl dX4_isSame_512 ?_
  refine z_ast (ce' := sW cy ad3 N B al al (cen ex n (.inl (cy 0, 9, .inl (upd (upd (upd (upd (upd (upd (upd (upd (fun _ => 0) 0 (al 0 8)) 1 (al 3 (h % 8))) 2 (nI N)) 3 (nI B)) 4 (al 0 9)) 5 (sumI (fun i => al (10 + i) 2) N)) 6 ((al (8 + 0) 0 + al (8 + 0) 1) + al (8 + 0) 2)) 7 (al (6 + 0) 1)))))) S hE hW (by omega) ((sW_x (by omega)).trans cen_k) 7 rfl (by decide) (by decide) ((sW_x (by omega)).trans cen_k) (fun j h => sW_ext (cen_oo h)) dX4_isSame_515 (fun H locs hW => ?_)
  refine lv_dup hx hb dX4_isSame_516 rfl ?_
  refine lv_bipush (v := 8) hx hb dX4_isSame_517 (by decide) ?_
  refine lv_iload_n hx hb dX4_isSame_519 rfl (lv_at hl 2 rfl) ?_
  refine z_ast (ce' := sW cy ad3 N B al al (cen ex n (.inl (cy 0, 9, .inl (upd (upd (upd (upd (upd (upd (upd (upd (upd (fun _ => 0) 0 (al 0 8)) 1 (al 3 (h % 8))) 2 (nI N)) 3 (nI B)) 4 (al 0 9)) 5 (sumI (fun i => al (10 + i) 2) N)) 6 ((al (8 + 0) 0 + al (8 + 0) 1) + al (8 + 0) 2)) 7 (al (6 + 0) 1)) 8 (sumI (al 1) 5)))))) S hE hW (by omega) ((sW_x (by omega)).trans cen_k) 8 rfl (by decide) (by decide) ((sW_x (by omega)).trans cen_k) (fun j h => sW_ext (cen_oo h)) dX4_isSame_520 (fun H locs hW => ?_)
  refine lv_astore (lv' := [(4, .ref (ad3 n)), (0, .ref (ad3 28)), (1, .ref (ad3 0)), (2, .int (sumI (al 1) 5)), (3, .int (mnW al N))]) hx hb dX4_isSame_521 hl (by decide) rfl (fun ls hl => ?_)
  refine lv_iconst (v := 0) hx hb dX4_isSame_523 (by decide) ?_
  refine lv_istore (lv' := [(5, .int 0), (4, .ref (ad3 n)), (0, .ref (ad3 28)), (1, .ref (ad3 0)), (2, .int (sumI (al 1) 5)), (3, .int (mnW al N))]) hx hb dX4_isSame_524 hl (by decide) rfl (fun ls hl => ?_)
  have L526 : ∀ (kr q : Nat) (H : Heap) (locs : List Loc) (ls : Array Slot), q + kr = 9 → WS D (n + 1) ad3 (sW cy ad3 N B al al (cen ex n (.inl (cy 0, 9, .inl (upd (upd (upd (upd (upd (upd (upd (upd (upd (fun _ => 0) 0 (al 0 8)) 1 (al 3 (h % 8))) 2 (nI N)) 3 (nI B)) 4 (al 0 9)) 5 (sumI (fun i => al (10 + i) 2) N)) 6 ((al (8 + 0) 0 + al (8 + 0) 1) + al (8 + 0) 2)) 7 (al (6 + 0) 1)) 8 (sumI (al 1) 5)))))) (Acc n ad s.heap.size) s.heap H locs → lv_has ls 9 [(5, .int (nI q)), (4, .ref (ad3 n)), (0, .ref (ad3 28)), (1, .ref (ad3 0)), (3, .int (mnW al N))] → W p l e ({ frames := 7, cells := 19, slots := 111, locals := 144 }) s m args below meth c H locs ((18 + 1)) ((102 + 9)) (MQD lw_cs below (va_Qi (fun r (_ : Unit) => r = 1) (fun _ _ => True) (Acc n ad s.heap.size)) args s 19 111 (Acc n ad s.heap.size)) (F0 m 526 ls []) := by
    intro kr
    induction kr with
    | zero =>
      intro q H locs ls hjkq hW hl
      have hjNq : q = 9 := by omega
      try rw [hjNq] at hW
      try rw [hjNq] at hl
      refine lv_iload hx hb dX4_isSame_526 (lv_at hl 0 rfl) ?_
      refine lv_bipush (v := 9) hx hb dX4_isSame_528 (by decide) ?_
      refine lv_icmp_ge (tgt := 555) hx hb dX4_isSame_530 (by decide) (fun _ => ?_) (fun h => absurd (by decide) h)
      refine W.widen (k := 19) (n := 111) (by omega) (by omega) ?_
      exact sm_F l hfl S hd0 hE hr hlk hI hh3 hn (sm_drop hW) (lv_sub hl [2, 3, 4] rfl)
    | succ kr ihq =>
      intro q H locs ls hjkq hW hl
      have hjq : q < 9 := by omega
      refine lv_iload hx hb dX4_isSame_526 (lv_at hl 0 rfl) ?_
      refine lv_bipush (v := 9) hx hb dX4_isSame_528 (by decide) ?_
      refine lv_icmp_ge (tgt := 555) hx hb dX4_isSame_530 (by decide) (fun h => absurd h (nI_ge (b := 9) hjq (by decide))) (fun _ => ?_)
      refine lv_aload_n hx hb dX4_isSame_533 rfl (lv_at hl 3 rfl) ?_
      refine lv_iload hx hb dX4_isSame_534 (lv_at hl 0 rfl) ?_
      refine z_cVi (As := [.int (nI q)]) (rest := []) (k := 0) S hE hW (cX3_count0_ok l D (n + 1) ad3 cy sa H.size (by omega) al (exS cy ad3 N B al (cen ex n (.inl (cy 0, 9, .inl (upd (upd (upd (upd (upd (upd (upd (upd (upd (fun _ => 0) 0 (al 0 8)) 1 (al 3 (h % 8))) 2 (nI N)) 3 (nI B)) 4 (al 0 9)) 5 (sumI (fun i => al (10 + i) 2) N)) 6 ((al (8 + 0) 0 + al (8 + 0) 1) + al (8 + 0) 2)) 7 (al (6 + 0) 1)) 8 (sumI (al 1) 5)))))) N hN hN6 h hh (by omega) q (by omega)) (cwV 1 hts gX4_isSame_X3_count rfl rfl rfl (by decide +kernel) ⟨Nat.le_of_ble_eq_true rfl, Nat.le_of_ble_eq_true rfl⟩) (by omega) cC_0 rfl rfl rfl hl.1 rfl (Nat.le_of_ble_eq_true rfl) dX4_isSame_536 ⟨(by dsimp only; omega), (by dsimp only; omega)⟩ (fun r _ H locs hp hW => ?_)
      subst hp
      refine lv_aload hx hb dX4_isSame_539 (lv_at hl 1 rfl) ?_
      refine lv_iload hx hb dX4_isSame_541 (lv_at hl 0 rfl) ?_
      refine z_ald S hE hW (by omega) ((sW_x (by omega)).trans cen_k) q rfl (by omega) (by decide) (v := v_count al (nI q)) ((cnt_eq hN hN6 hB hh (by omega) (by omega))) dX4_isSame_543 ?_
      refine lv_icmp_eq (tgt := 549) hx hb dX4_isSame_544 (by decide) (fun _ => ?_) (fun h => absurd rfl h)
      refine lv_iinc (v := nI (q + 1)) (lv' := [(5, .int (nI (q + 1))), (4, .ref (ad3 n)), (0, .ref (ad3 28)), (1, .ref (ad3 0)), (3, .int (mnW al N))]) hx hb dX4_isSame_549 hl (k := 0) rfl (nI_1 _) (by decide) rfl (fun ls hl => ?_)
      refine lv_goto (tgt := 526) hx hb dX4_isSame_552 (by decide) ?_
      exact ihq (q + 1) H locs ls (by omega) hW (lv_sub hl [0, 1, 2, 3, 4] rfl)
  exact L526 (9) 0 _ _ ls (by omega) hW (lv_sub hl [0, 1, 2, 3, 5] rfl)

set_option maxHeartbeats 8000000 in
set_option maxRecDepth 100000 in
theorem sm_D {p : Program} (l : Launch) {e : Env} {s : State} {m : MethodId} {args : Array Value} {below : List Frame} {meth : Method} {c : Code} {D : va_G} {n : Nat} {ad ad1 cy sa : Nat → Nat} {N B h : Nat} {al : Nat → Nat → Int32} {ex : Nat → va_E} {H : Heap} {locs : List Loc} {ls : Array Slot} (hfl : l.stackTraces = false) (S : CallFix p m c cX4_isSame 9 s args wsX4_isSame RX4) (hd0 : s.drawn.sameBut s.drawn lw_cs) (hE : ZEnv D cy sa (Acc n ad s.heap.size) s) (hr : meth.sig.returnType = some .boolean) (hlk : meth.locks = false) (hI : InvT al N B h) (hh3 : h < 2 ^ 20) (hn : 35 + 2 * N + B ≤ n) (hW : WS D n ad1 (sW cy ad1 N B al al ex) (Acc n ad s.heap.size) s.heap H locs) (hl : lv_has ls 9 [(0, .ref (ad1 28)), (1, .ref (ad1 0)), (2, .int (sumI (al 1) 5)), (3, .int (mnW al N))]) : W p l e ({ frames := 7, cells := 19, slots := 111, locals := 144 }) s m args below meth c H locs 15 84 (MQD lw_cs below (va_Qi (fun r (_ : Unit) => r = 1) (fun _ _ => True) (Acc n ad s.heap.size)) args s 19 111 (Acc n ad s.heap.size)) (F0 m 411 ls []) := by
  have hx := S.1
  have hb := S.2.1
  have hown := S.2.2.2.1
  have hts := S.2.2.2.2
  have hN := hI.1.1.1
  have hN6 := hI.1.1.2.1
  have hB := hI.1.1.2.2.1
  have hB4 := hI.1.1.2.2.2.1
  have hh := hI.1.1.2.2.2.2
  have hab := hI.1.ab
  have f30 := hts (.fieldLink RX4 30 "PumiceSledgeLaw$Sim" "beach" "[I") (by decide +kernel)
  have hi4 : ∀ w ∈ wsX40, w ∈ wsX4_isSame := by decide +kernel
  refine lv_iconst (v := 0) hx hb dX4_isSame_411 (by decide) ?_
  refine lv_istore (lv' := [(4, .int 0), (0, .ref (ad1 28)), (1, .ref (ad1 0)), (2, .int (sumI (al 1) 5)), (3, .int (mnW al N))]) hx hb dX4_isSame_412 hl (by decide) rfl (fun ls hl => ?_)
  have L414 : ∀ (kq j : Nat) (ad2 : Nat → Nat) (H : Heap) (locs : List Loc) (ls : Array Slot), j + kq = 3 → WS D n ad2 (sW cy ad2 N B al al ex) (Acc n ad s.heap.size) s.heap H locs → lv_has ls 9 [(4, .int (nI j)), (0, .ref (ad2 28)), (1, .ref (ad2 0)), (2, .int (sumI (al 1) 5)), (3, .int (mnW al N))] → W p l e ({ frames := 7, cells := 19, slots := 111, locals := 144 }) s m args below meth c H locs (15 + j) (84 + 6 * j) (MQD lw_cs below (va_Qi (fun r (_ : Unit) => r = 1) (fun _ _ => True) (Acc n ad s.heap.size)) args s 19 111 (Acc n ad s.heap.size)) (F0 m 414 ls []) := by
    intro kq
    induction kq with
    | zero =>
      intro j ad2 H locs ls hjk hW hl
      have hjN : j = 3 := by omega
      try rw [hjN] at hW
      try rw [hjN] at hl
      refine lv_iload hx hb dX4_isSame_414 (lv_at hl 0 rfl) ?_
      refine lv_iconst (v := 3) hx hb dX4_isSame_416 (by decide) ?_
      refine lv_icmp_ge (tgt := 444) hx hb dX4_isSame_417 (by decide) (fun _ => ?_) (fun h => absurd (by decide) h)
      refine W.widen (k := 18) (n := 102) (by omega) (by omega) ?_
      exact sm_E l hfl S hd0 hE hr hlk hI hh3 hn hW (lv_sub hl [1, 2, 3, 4] rfl)
    | succ kq ih =>
      intro j ad2 H locs ls hjk hW hl
      have hj : j < 3 := by omega
      refine lv_iload hx hb dX4_isSame_414 (lv_at hl 0 rfl) ?_
      refine lv_iconst (v := 3) hx hb dX4_isSame_416 (by decide) ?_
      refine lv_icmp_ge (tgt := 444) hx hb dX4_isSame_417 (by decide) (fun h => absurd h (nI_ge (b := 3) hj (by omega))) (fun _ => ?_)
      refine lv_aload_n hx hb dX4_isSame_420 rfl (lv_at hl 2 rfl) ?_
      refine lv_iload hx hb dX4_isSame_421 (lv_at hl 0 rfl) ?_
      refine z_xVi (As := [.int (nI j)]) (rest := []) (k := 0) S hE hW (cX3_beach_ok l D n ad2 cy sa H.size (by omega) al (exS cy ad2 N B al ex) (nI j) hfl) (cwV 1 hts gX4_isSame_X3_beach rfl rfl rfl (by decide +kernel) ⟨Nat.le_of_ble_eq_true rfl, Nat.le_of_ble_eq_true rfl⟩) (by omega) cC_0 rfl rfl rfl hl.1 rfl (Nat.le_of_ble_eq_true rfl) dX4_isSame_423 ⟨(by dsimp only; omega), (by dsimp only; omega)⟩ (fun E x9 q9 H locs hbad hW hx9 hv9 hc9 => absurd hbad (zbad_0 (k0_beach (by omega)))) (fun r _ H locs hp hW => ?_)
      obtain ⟨-, rfl⟩ := hp
      refine z_top2 (y := al (8 + 0) j) (by unfold v_beach; rw [ix_nI (show j < 2 ^ 31 by omega)]) ?_
      refine lv_aload_n hx hb dX4_isSame_426 rfl (lv_at hl 1 rfl) ?_
      refine z_get (C := RX4) (T := TX4) (N := 9) (ci := 4) S hE hW hi4 rfl (by omega) sW_28 5 (by decide) rfl f30 (v := .ref (ad2 32)) rfl dX4_isSame_427 ?_
      refine lv_iload hx hb dX4_isSame_430 (lv_at hl 0 rfl) ?_
      refine z_ald S hE hW (by omega) sW_32 j rfl (by omega) (by decide) (v := al (8 + 0) j) rfl dX4_isSame_432 ?_
      refine lv_icmp_eq (tgt := 438) hx hb dX4_isSame_433 (by decide) (fun _ => ?_) (fun h => absurd rfl h)
      refine lv_iinc (v := nI (j + 1)) (lv' := [(4, .int (nI (j + 1))), (0, .ref (ad2 28)), (1, .ref (ad2 0)), (2, .int (sumI (al 1) 5)), (3, .int (mnW al N))]) hx hb dX4_isSame_438 hl (k := 0) rfl (nI_1 _) (by decide) rfl (fun ls hl => ?_)
      refine lv_goto (tgt := 414) hx hb dX4_isSame_441 (by decide) ?_
      refine W.widen (k := 15 + (j + 1)) (n := 84 + 6 * (j + 1)) (by omega) (by omega) ?_
      exact ih (j + 1) ad2 H locs ls (by omega) hW (lv_sub hl [0, 1, 2, 3, 4] rfl)
  exact L414 (3) 0 ad1 _ _ ls (by omega) hW (lv_sub hl [0, 1, 2, 3, 4] rfl)

set_option maxHeartbeats 8000000 in
set_option maxRecDepth 100000 in
theorem sm_C {p : Program} (l : Launch) {e : Env} {s : State} {m : MethodId} {args : Array Value} {below : List Frame} {meth : Method} {c : Code} {D : va_G} {n : Nat} {ad ad1 cy sa : Nat → Nat} {N B h : Nat} {al : Nat → Nat → Int32} {ex : Nat → va_E} {H : Heap} {locs : List Loc} {ls : Array Slot} (hfl : l.stackTraces = false) (S : CallFix p m c cX4_isSame 9 s args wsX4_isSame RX4) (hd0 : s.drawn.sameBut s.drawn lw_cs) (hE : ZEnv D cy sa (Acc n ad s.heap.size) s) (hr : meth.sig.returnType = some .boolean) (hlk : meth.locks = false) (hI : InvT al N B h) (hh3 : h < 2 ^ 20) (hn : 35 + 2 * N + B ≤ n) (hW : WS D n ad1 (sW cy ad1 N B al al ex) (Acc n ad s.heap.size) s.heap H locs) (hl : lv_has ls 9 [(0, .ref (ad1 28)), (1, .ref (ad1 0)), (2, .int (sumI (al 1) 5)), (3, .int (mnW al N))]) : W p l e ({ frames := 7, cells := 19, slots := 111, locals := 144 }) s m args below meth c H locs 11 56 (MQD lw_cs below (va_Qi (fun r (_ : Unit) => r = 1) (fun _ _ => True) (Acc n ad s.heap.size)) args s 19 111 (Acc n ad s.heap.size)) (F0 m 262 ls []) := by
  have hx := S.1
  have hb := S.2.1
  have hown := S.2.2.2.1
  have hts := S.2.2.2.2
  have hN := hI.1.1.1
  have hN6 := hI.1.1.2.1
  have hB := hI.1.1.2.2.1
  have hB4 := hI.1.1.2.2.2.1
  have hh := hI.1.1.2.2.2.2
  have hab := hI.1.ab
  have f26 := hts (.fieldLink RX4 26 "PumiceSledgeLaw$Sim" "boats" "[[I") (by decide +kernel)
  have hi4 : ∀ w ∈ wsX40, w ∈ wsX4_isSame := by decide +kernel
  have har := hts (.arrayClass .int) (by decide +kernel)
  refine lv_iconst (v := 0) hx hb dX4_isSame_262 (by decide) ?_
  refine lv_istore (lv' := [(4, .int 0), (0, .ref (ad1 28)), (1, .ref (ad1 0)), (2, .int (sumI (al 1) 5)), (3, .int (mnW al N))]) hx hb dX4_isSame_263 hl (by decide) rfl (fun ls hl => ?_)
  have L265 : ∀ (kq j : Nat) (ad2 : Nat → Nat) (H : Heap) (locs : List Loc) (ls : Array Slot), j + kq = B → WS D n ad2 (sW cy ad2 N B al al ex) (Acc n ad s.heap.size) s.heap H locs → lv_has ls 9 [(4, .int (nI j)), (0, .ref (ad2 28)), (1, .ref (ad2 0)), (2, .int (sumI (al 1) 5)), (3, .int (mnW al N))] → W p l e ({ frames := 7, cells := 19, slots := 111, locals := 144 }) s m args below meth c H locs (11 + j) (56 + 7 * j) (MQD lw_cs below (va_Qi (fun r (_ : Unit) => r = 1) (fun _ _ => True) (Acc n ad s.heap.size)) args s 19 111 (Acc n ad s.heap.size)) (F0 m 265 ls []) := by
    intro kq
    induction kq with
    | zero =>
      intro j ad2 H locs ls hjk hW hl
      have hjN : j = B := by omega
      try rw [hjN] at hW
      try rw [hjN] at hl
      refine lv_iload hx hb dX4_isSame_265 (lv_at hl 0 rfl) ?_
      refine lv_aload_n hx hb dX4_isSame_267 rfl (lv_at hl 1 rfl) ?_
      refine z_get (C := RX4) (T := TX4) (N := 9) (ci := 4) S hE hW hi4 rfl (by omega) sW_28 4 (by decide) rfl f26 (v := .ref (ad2 34)) rfl dX4_isSame_268 ?_
      refine z_alenG (t0 := 3) S hE hW (by omega) sW_34 rfl (v := nI B) rfl dX4_isSame_271 ?_
      refine lv_icmp_ge (tgt := 411) hx hb dX4_isSame_272 (by decide) (fun _ => ?_) (fun h => absurd (nI_le (a := B) (Nat.le_refl _) (by omega)) h)
      refine W.widen (k := 15) (n := 84) (by omega) (by omega) ?_
      exact sm_D l hfl S hd0 hE hr hlk hI hh3 hn hW (lv_sub hl [1, 2, 3, 4] rfl)
    | succ kq ih =>
      intro j ad2 H locs ls hjk hW hl
      have hj : j < B := by omega
      refine lv_iload hx hb dX4_isSame_265 (lv_at hl 0 rfl) ?_
      refine lv_aload_n hx hb dX4_isSame_267 rfl (lv_at hl 1 rfl) ?_
      refine z_get (C := RX4) (T := TX4) (N := 9) (ci := 4) S hE hW hi4 rfl (by omega) sW_28 4 (by decide) rfl f26 (v := .ref (ad2 34)) rfl dX4_isSame_268 ?_
      refine z_alenG (t0 := 3) S hE hW (by omega) sW_34 rfl (v := nI B) rfl dX4_isSame_271 ?_
      refine lv_icmp_ge (tgt := 411) hx hb dX4_isSame_272 (by decide) (fun h => absurd h (nI_ge (b := B) hj (by omega))) (fun _ => ?_)
      refine lv_aload_n hx hb dX4_isSame_275 rfl (lv_at hl 1 rfl) ?_
      refine z_get (C := RX4) (T := TX4) (N := 9) (ci := 4) S hE hW hi4 rfl (by omega) sW_28 4 (by decide) rfl f26 (v := .ref (ad2 34)) rfl dX4_isSame_276 ?_
      refine lv_iload hx hb dX4_isSame_279 (lv_at hl 0 rfl) ?_
      refine z_aldA S hE hW (by omega) sW_34 j rfl (by omega) (by omega) (v := .ref (ad2 (35 + 2 * N + j))) rfl dX4_isSame_281 ?_
      refine lv_astore (lv' := [(5, .ref (ad2 (35 + 2 * N + j))), (4, .int (nI j)), (0, .ref (ad2 28)), (1, .ref (ad2 0)), (2, .int (sumI (al 1) 5)), (3, .int (mnW al N))]) hx hb dX4_isSame_282 hl (by decide) rfl (fun ls hl => ?_)
      refine lv_bipush (v := 7) hx hb dX4_isSame_284 (by decide) ?_
      refine z_newI (M := 7) S hE (by omega) hW har rfl (by decide) (by dsimp only; omega) (by dsimp only; omega) dX4_isSame_286 (fun ad3 H had3 hW => ?_)
      replace hl : lv_has ls 9 [(5, .ref (ad3 (35 + 2 * N + j))), (4, .int (nI j)), (0, .ref (ad3 28)), (1, .ref (ad3 0)), (2, .int (sumI (al 1) 5)), (3, .int (mnW al N))] := by
        rw [had3 (35 + 2 * N + j) (by omega), had3 28 (by omega), had3 0 (by omega)]; exact hl
      refine lv_dup hx hb dX4_isSame_288 rfl ?_
      refine lv_iconst (v := 0) hx hb dX4_isSame_289 (by decide) ?_
      refine lv_aload hx hb dX4_isSame_290 (lv_at hl 0 rfl) ?_
      refine lv_iconst (v := 0) hx hb dX4_isSame_292 (by decide) ?_
      refine z_ald S hE hW (by omega) (sW_bb (b := j) hj) 0 rfl (by decide) (by decide) (v := al (24 + j) 0) rfl dX4_isSame_293 ?_
      refine z_ast (ce' := sW cy ad3 N B al al (cen ex n (.inl (cy 0, 7, .inl (upd (fun _ => 0) 0 (al (24 + j) 0)))))) S hE hW (by omega) ((sW_x (by omega)).trans cen_k) 0 rfl (by decide) (by decide) ((sW_x (by omega)).trans cen_k) (fun j h => sW_ext (cen_oo h)) dX4_isSame_294 (fun H locs hW => ?_)
      refine lv_dup hx hb dX4_isSame_295 rfl ?_
      refine lv_iconst (v := 1) hx hb dX4_isSame_296 (by decide) ?_
      refine lv_aload hx hb dX4_isSame_297 (lv_at hl 0 rfl) ?_
      refine lv_iconst (v := 1) hx hb dX4_isSame_299 (by decide) ?_
      refine z_ald S hE hW (by omega) (sW_bb (b := j) hj) 1 rfl (by decide) (by decide) (v := al (24 + j) 1) rfl dX4_isSame_300 ?_
      refine z_ast (ce' := sW cy ad3 N B al al (cen ex n (.inl (cy 0, 7, .inl (upd (upd (fun _ => 0) 0 (al (24 + j) 0)) 1 (al (24 + j) 1)))))) S hE hW (by omega) ((sW_x (by omega)).trans cen_k) 1 rfl (by decide) (by decide) ((sW_x (by omega)).trans cen_k) (fun j h => sW_ext (cen_oo h)) dX4_isSame_301 (fun H locs hW => ?_)
      refine lv_dup hx hb dX4_isSame_302 rfl ?_
      refine lv_iconst (v := 2) hx hb dX4_isSame_303 (by decide) ?_
      refine lv_aload hx hb dX4_isSame_304 (lv_at hl 0 rfl) ?_
      refine lv_iconst (v := 2) hx hb dX4_isSame_306 (by decide) ?_
      refine z_ald S hE hW (by omega) (sW_bb (b := j) hj) 2 rfl (by decide) (by decide) (v := al (24 + j) 2) rfl dX4_isSame_307 ?_
      refine z_ast (ce' := sW cy ad3 N B al al (cen ex n (.inl (cy 0, 7, .inl (upd (upd (upd (fun _ => 0) 0 (al (24 + j) 0)) 1 (al (24 + j) 1)) 2 (al (24 + j) 2)))))) S hE hW (by omega) ((sW_x (by omega)).trans cen_k) 2 rfl (by decide) (by decide) ((sW_x (by omega)).trans cen_k) (fun j h => sW_ext (cen_oo h)) dX4_isSame_308 (fun H locs hW => ?_)
      refine lv_dup hx hb dX4_isSame_309 rfl ?_
      refine lv_iconst (v := 3) hx hb dX4_isSame_310 (by decide) ?_
      refine lv_aload hx hb dX4_isSame_311 (lv_at hl 0 rfl) ?_
      refine lv_iconst (v := 1) hx hb dX4_isSame_313 (by decide) ?_
      refine z_ald S hE hW (by omega) (sW_bb (b := j) hj) 1 rfl (by decide) (by decide) (v := al (24 + j) 1) rfl dX4_isSame_314 ?_
      refine lv_aload hx hb dX4_isSame_315 (lv_at hl 0 rfl) ?_
      refine lv_iconst (v := 2) hx hb dX4_isSame_317 (by decide) ?_
      refine z_ald S hE hW (by omega) (sW_bb (b := j) hj) 2 rfl (by decide) (by decide) (v := al (24 + j) 2) rfl dX4_isSame_318 ?_
      refine lv_isub hx hb dX4_isSame_319 ?_
      refine z_ast (ce' := sW cy ad3 N B al al (cen ex n (.inl (cy 0, 7, .inl (upd (upd (upd (upd (fun _ => 0) 0 (al (24 + j) 0)) 1 (al (24 + j) 1)) 2 (al (24 + j) 2)) 3 (al (24 + j) 1 - al (24 + j) 2)))))) S hE hW (by omega) ((sW_x (by omega)).trans cen_k) 3 rfl (by decide) (by decide) ((sW_x (by omega)).trans cen_k) (fun j h => sW_ext (cen_oo h)) dX4_isSame_320 (fun H locs hW => ?_)
      refine lv_dup hx hb dX4_isSame_321 rfl ?_
      refine lv_iconst (v := 4) hx hb dX4_isSame_322 (by decide) ?_
      refine lv_aload hx hb dX4_isSame_323 (lv_at hl 0 rfl) ?_
      refine lv_iconst (v := 1) hx hb dX4_isSame_325 (by decide) ?_
      refine z_ald S hE hW (by omega) (sW_bb (b := j) hj) 1 rfl (by decide) (by decide) (v := al (24 + j) 1) rfl dX4_isSame_326 ?_
      refine lv_aload hx hb dX4_isSame_327 (lv_at hl 0 rfl) ?_
      refine lv_iconst (v := 2) hx hb dX4_isSame_329 (by decide) ?_
      refine z_ald S hE hW (by omega) (sW_bb (b := j) hj) 2 rfl (by decide) (by decide) (v := al (24 + j) 2) rfl dX4_isSame_330 ?_
      refine z_pS (As := [.int (al (24 + j) 1), .int (al (24 + j) 2)]) (rest := [.int 4, .ref (ad3 n), .ref (ad3 n)]) S hE hW (cX4_depth_ok l (al (24 + j) 1) (al (24 + j) 2)) (va_cwS 2 hts gX4_isSame_X4_depth rfl rfl rfl (by decide +kernel) ⟨Nat.le_of_ble_eq_true rfl, Nat.le_of_ble_eq_true rfl⟩) rfl hl.1 rfl (Nat.le_of_ble_eq_true rfl) dX4_isSame_331 ⟨(by dsimp only; omega), (by dsimp only; omega)⟩ (fun H locs hW => ?_)
      refine z_ast (ce' := sW cy ad3 N B al al (cen ex n (.inl (cy 0, 7, .inl (upd (upd (upd (upd (upd (fun _ => 0) 0 (al (24 + j) 0)) 1 (al (24 + j) 1)) 2 (al (24 + j) 2)) 3 (al (24 + j) 1 - al (24 + j) 2)) 4 (depL (al (24 + j) 1) (al (24 + j) 2))))))) S hE hW (by omega) ((sW_x (by omega)).trans cen_k) 4 rfl (by decide) (by decide) ((sW_x (by omega)).trans cen_k) (fun j h => sW_ext (cen_oo h)) dX4_isSame_334 (fun H locs hW => ?_)
      refine lv_dup hx hb dX4_isSame_335 rfl ?_
      refine lv_iconst (v := 5) hx hb dX4_isSame_336 (by decide) ?_
      refine lv_aload hx hb dX4_isSame_337 (lv_at hl 0 rfl) ?_
      refine z_cSi (As := [.ref (ad3 (35 + 2 * N + j))]) (rest := [.int 5, .ref (ad3 n), .ref (ad3 n)]) S hE hW (cX4_canSail_ok l D (n + 1) ad3 cy sa H.size N B (by omega) (by omega) (by omega) al al (cen ex n (.inl (cy 0, 7, .inl (upd (upd (upd (upd (upd (fun _ => 0) 0 (al (24 + j) 0)) 1 (al (24 + j) 1)) 2 (al (24 + j) 2)) 3 (al (24 + j) 1 - al (24 + j) 2)) 4 (depL (al (24 + j) 1) (al (24 + j) 2)))))) j (hj)) (va_cwS 1 hts gX4_isSame_X4_canSail rfl rfl rfl (by decide +kernel) ⟨Nat.le_of_ble_eq_true rfl, Nat.le_of_ble_eq_true rfl⟩) rfl hl.1 rfl (Nat.le_of_ble_eq_true rfl) dX4_isSame_339 ⟨(by dsimp only; omega), (by dsimp only; omega)⟩ (fun r _ H locs hp hW => ?_)
      subst hp
      refine lv_if_eq (tgt := 349) hx hb dX4_isSame_342 (by decide) (fun c342 => ?_) (fun c342 => ?_)
      · have c342 := zb_f c342
        refine lv_iconst (v := 0) hx hb dX4_isSame_349 (by decide) ?_
        refine z_ast (ce' := sW cy ad3 N B al al (cen ex n (.inl (cy 0, 7, .inl (upd (upd (upd (upd (upd (upd (fun _ => 0) 0 (al (24 + j) 0)) 1 (al (24 + j) 1)) 2 (al (24 + j) 2)) 3 (al (24 + j) 1 - al (24 + j) 2)) 4 (depL (al (24 + j) 1) (al (24 + j) 2))) 5 0))))) S hE hW (by omega) ((sW_x (by omega)).trans cen_k) 5 rfl (by decide) (by decide) ((sW_x (by omega)).trans cen_k) (fun j h => sW_ext (cen_oo h)) dX4_isSame_350 (fun H locs hW => ?_)
        refine lv_dup hx hb dX4_isSame_351 rfl ?_
        refine lv_bipush (v := 6) hx hb dX4_isSame_352 (by decide) ?_
        refine lv_aload hx hb dX4_isSame_354 (lv_at hl 0 rfl) ?_
        refine lv_iconst (v := 0) hx hb dX4_isSame_356 (by decide) ?_
        refine z_ald S hE hW (by omega) (sW_bb (b := j) hj) 0 rfl (by decide) (by decide) (v := al (24 + j) 0) rfl dX4_isSame_357 ?_
        refine lv_aload hx hb dX4_isSame_358 (lv_at hl 0 rfl) ?_
        refine lv_iconst (v := 1) hx hb dX4_isSame_360 (by decide) ?_
        refine z_ald S hE hW (by omega) (sW_bb (b := j) hj) 1 rfl (by decide) (by decide) (v := al (24 + j) 1) rfl dX4_isSame_361 ?_
        refine lv_isub hx hb dX4_isSame_362 ?_
        refine lv_aload hx hb dX4_isSame_363 (lv_at hl 0 rfl) ?_
        refine lv_iconst (v := 2) hx hb dX4_isSame_365 (by decide) ?_
        refine z_ald S hE hW (by omega) (sW_bb (b := j) hj) 2 rfl (by decide) (by decide) (v := al (24 + j) 2) rfl dX4_isSame_366 ?_
        refine lv_isub hx hb dX4_isSame_367 ?_
        refine z_ast (ce' := sW cy ad3 N B al al (cen ex n (.inl (cy 0, 7, .inl (upd (upd (upd (upd (upd (upd (upd (fun _ => 0) 0 (al (24 + j) 0)) 1 (al (24 + j) 1)) 2 (al (24 + j) 2)) 3 (al (24 + j) 1 - al (24 + j) 2)) 4 (depL (al (24 + j) 1) (al (24 + j) 2))) 5 0) 6 ((al (24 + j) 0 - al (24 + j) 1) - al (24 + j) 2)))))) S hE hW (by omega) ((sW_x (by omega)).trans cen_k) 6 rfl (by decide) (by decide) ((sW_x (by omega)).trans cen_k) (fun j h => sW_ext (cen_oo h)) dX4_isSame_368 (fun H locs hW => ?_)
        refine lv_astore (lv' := [(6, .ref (ad3 n)), (5, .ref (ad3 (35 + 2 * N + j))), (4, .int (nI j)), (0, .ref (ad3 28)), (1, .ref (ad3 0)), (2, .int (sumI (al 1) 5)), (3, .int (mnW al N))]) hx hb dX4_isSame_369 hl (by decide) rfl (fun ls hl => ?_)
        refine lv_iconst (v := 0) hx hb dX4_isSame_371 (by decide) ?_
        refine lv_istore (lv' := [(7, .int 0), (6, .ref (ad3 n)), (5, .ref (ad3 (35 + 2 * N + j))), (4, .int (nI j)), (0, .ref (ad3 28)), (1, .ref (ad3 0)), (2, .int (sumI (al 1) 5)), (3, .int (mnW al N))]) hx hb dX4_isSame_372 hl (by decide) rfl (fun ls hl => ?_)
        have L374 : ∀ (kr q : Nat) (H : Heap) (locs : List Loc) (ls : Array Slot), q + kr = 7 → WS D (n + 1) ad3 (sW cy ad3 N B al al (cen ex n (.inl (cy 0, 7, .inl (upd (upd (upd (upd (upd (upd (upd (fun _ => 0) 0 (al (24 + j) 0)) 1 (al (24 + j) 1)) 2 (al (24 + j) 2)) 3 (al (24 + j) 1 - al (24 + j) 2)) 4 (depL (al (24 + j) 1) (al (24 + j) 2))) 5 0) 6 ((al (24 + j) 0 - al (24 + j) 1) - al (24 + j) 2)))))) (Acc n ad s.heap.size) s.heap H locs → lv_has ls 9 [(7, .int (nI q)), (6, .ref (ad3 n)), (5, .ref (ad3 (35 + 2 * N + j))), (4, .int (nI j)), (0, .ref (ad3 28)), (1, .ref (ad3 0)), (2, .int (sumI (al 1) 5)), (3, .int (mnW al N))] → W p l e ({ frames := 7, cells := 19, slots := 111, locals := 144 }) s m args below meth c H locs (((11 + j) + 1)) (((56 + 7 * j) + 7)) (MQD lw_cs below (va_Qi (fun r (_ : Unit) => r = 1) (fun _ _ => True) (Acc n ad s.heap.size)) args s 19 111 (Acc n ad s.heap.size)) (F0 m 374 ls []) := by
          intro kr
          induction kr with
          | zero =>
            intro q H locs ls hjkq hW hl
            have hjNq : q = 7 := by omega
            try rw [hjNq] at hW
            try rw [hjNq] at hl
            refine lv_iload hx hb dX4_isSame_374 (lv_at hl 0 rfl) ?_
            refine lv_bipush (v := 7) hx hb dX4_isSame_376 (by decide) ?_
            refine lv_icmp_ge (tgt := 405) hx hb dX4_isSame_378 (by decide) (fun _ => ?_) (fun h => absurd (by decide) h)
            refine lv_iinc (v := nI (j + 1)) (lv' := [(4, .int (nI (j + 1))), (7, .int (nI 7)), (6, .ref (ad3 n)), (5, .ref (ad3 (35 + 2 * N + j))), (0, .ref (ad3 28)), (1, .ref (ad3 0)), (2, .int (sumI (al 1) 5)), (3, .int (mnW al N))]) hx hb dX4_isSame_405 hl (k := 3) rfl (nI_1 _) (by decide) rfl (fun ls hl => ?_)
            refine lv_goto (tgt := 265) hx hb dX4_isSame_408 (by decide) ?_
            replace hW := sm_drop hW
            refine W.widen (k := 11 + (j + 1)) (n := 56 + 7 * (j + 1)) (by omega) (by omega) ?_
            exact ih (j + 1) ad3 H locs ls (by omega) hW (lv_sub hl [0, 4, 5, 6, 7] rfl)
          | succ kr ihq =>
            intro q H locs ls hjkq hW hl
            have hjq : q < 7 := by omega
            refine lv_iload hx hb dX4_isSame_374 (lv_at hl 0 rfl) ?_
            refine lv_bipush (v := 7) hx hb dX4_isSame_376 (by decide) ?_
            refine lv_icmp_ge (tgt := 405) hx hb dX4_isSame_378 (by decide) (fun h => absurd h (nI_ge (b := 7) hjq (by decide))) (fun _ => ?_)
            refine lv_aload_n hx hb dX4_isSame_381 rfl (lv_at hl 5 rfl) ?_
            refine lv_iload hx hb dX4_isSame_382 (lv_at hl 3 rfl) ?_
            refine lv_iload hx hb dX4_isSame_384 (lv_at hl 0 rfl) ?_
            refine z_cVi (As := [.int (nI j), .int (nI q)]) (rest := []) (k := 0) S hE hW (cX3_boat0_ok l D (n + 1) ad3 cy sa H.size (by omega) al (exS cy ad3 N B al (cen ex n (.inl (cy 0, 7, .inl (upd (upd (upd (upd (upd (upd (upd (fun _ => 0) 0 (al (24 + j) 0)) 1 (al (24 + j) 1)) 2 (al (24 + j) 2)) 3 (al (24 + j) 1 - al (24 + j) 2)) 4 (depL (al (24 + j) 1) (al (24 + j) 2))) 5 0) 6 ((al (24 + j) 0 - al (24 + j) 1) - al (24 + j) 2)))))) B hB hB4 j (by omega) q (by omega)) (cwV 2 hts gX4_isSame_X3_boat rfl rfl rfl (by decide +kernel) ⟨Nat.le_of_ble_eq_true rfl, Nat.le_of_ble_eq_true rfl⟩) (by omega) cC_0 rfl rfl rfl hl.1 rfl (Nat.le_of_ble_eq_true rfl) dX4_isSame_386 ⟨(by dsimp only; omega), (by dsimp only; omega)⟩ (fun r _ H locs hp hW => ?_)
            subst hp
            refine lv_aload hx hb dX4_isSame_389 (lv_at hl 1 rfl) ?_
            refine lv_iload hx hb dX4_isSame_391 (lv_at hl 0 rfl) ?_
            refine z_ald S hE hW (by omega) ((sW_x (by omega)).trans cen_k) q rfl (by omega) (by decide) (v := v_boat al (nI j) (nI q)) ((boat_eq (by omega) (hI.2.1 j (by omega)) (by omega) (if_neg c342).symm (by omega))) dX4_isSame_393 ?_
            refine lv_icmp_eq (tgt := 399) hx hb dX4_isSame_394 (by decide) (fun _ => ?_) (fun h => absurd rfl h)
            refine lv_iinc (v := nI (q + 1)) (lv' := [(7, .int (nI (q + 1))), (6, .ref (ad3 n)), (5, .ref (ad3 (35 + 2 * N + j))), (4, .int (nI j)), (0, .ref (ad3 28)), (1, .ref (ad3 0)), (2, .int (sumI (al 1) 5)), (3, .int (mnW al N))]) hx hb dX4_isSame_399 hl (k := 0) rfl (nI_1 _) (by decide) rfl (fun ls hl => ?_)
            refine lv_goto (tgt := 374) hx hb dX4_isSame_402 (by decide) ?_
            exact ihq (q + 1) H locs ls (by omega) hW (lv_sub hl [0, 1, 2, 3, 4, 5, 6, 7] rfl)
        exact L374 (7) 0 _ _ ls (by omega) hW (lv_sub hl [0, 1, 2, 3, 4, 5, 6, 7] rfl)
      · have c342 := zb_t c342
        refine lv_iconst (v := 1) hx hb dX4_isSame_345 (by decide) ?_
        refine lv_goto (tgt := 350) hx hb dX4_isSame_346 (by decide) ?_
        refine z_ast (ce' := sW cy ad3 N B al al (cen ex n (.inl (cy 0, 7, .inl (upd (upd (upd (upd (upd (upd (fun _ => 0) 0 (al (24 + j) 0)) 1 (al (24 + j) 1)) 2 (al (24 + j) 2)) 3 (al (24 + j) 1 - al (24 + j) 2)) 4 (depL (al (24 + j) 1) (al (24 + j) 2))) 5 1))))) S hE hW (by omega) ((sW_x (by omega)).trans cen_k) 5 rfl (by decide) (by decide) ((sW_x (by omega)).trans cen_k) (fun j h => sW_ext (cen_oo h)) dX4_isSame_350 (fun H locs hW => ?_)
        refine lv_dup hx hb dX4_isSame_351 rfl ?_
        refine lv_bipush (v := 6) hx hb dX4_isSame_352 (by decide) ?_
        refine lv_aload hx hb dX4_isSame_354 (lv_at hl 0 rfl) ?_
        refine lv_iconst (v := 0) hx hb dX4_isSame_356 (by decide) ?_
        refine z_ald S hE hW (by omega) (sW_bb (b := j) hj) 0 rfl (by decide) (by decide) (v := al (24 + j) 0) rfl dX4_isSame_357 ?_
        refine lv_aload hx hb dX4_isSame_358 (lv_at hl 0 rfl) ?_
        refine lv_iconst (v := 1) hx hb dX4_isSame_360 (by decide) ?_
        refine z_ald S hE hW (by omega) (sW_bb (b := j) hj) 1 rfl (by decide) (by decide) (v := al (24 + j) 1) rfl dX4_isSame_361 ?_
        refine lv_isub hx hb dX4_isSame_362 ?_
        refine lv_aload hx hb dX4_isSame_363 (lv_at hl 0 rfl) ?_
        refine lv_iconst (v := 2) hx hb dX4_isSame_365 (by decide) ?_
        refine z_ald S hE hW (by omega) (sW_bb (b := j) hj) 2 rfl (by decide) (by decide) (v := al (24 + j) 2) rfl dX4_isSame_366 ?_
        refine lv_isub hx hb dX4_isSame_367 ?_
        refine z_ast (ce' := sW cy ad3 N B al al (cen ex n (.inl (cy 0, 7, .inl (upd (upd (upd (upd (upd (upd (upd (fun _ => 0) 0 (al (24 + j) 0)) 1 (al (24 + j) 1)) 2 (al (24 + j) 2)) 3 (al (24 + j) 1 - al (24 + j) 2)) 4 (depL (al (24 + j) 1) (al (24 + j) 2))) 5 1) 6 ((al (24 + j) 0 - al (24 + j) 1) - al (24 + j) 2)))))) S hE hW (by omega) ((sW_x (by omega)).trans cen_k) 6 rfl (by decide) (by decide) ((sW_x (by omega)).trans cen_k) (fun j h => sW_ext (cen_oo h)) dX4_isSame_368 (fun H locs hW => ?_)
        refine lv_astore (lv' := [(6, .ref (ad3 n)), (5, .ref (ad3 (35 + 2 * N + j))), (4, .int (nI j)), (0, .ref (ad3 28)), (1, .ref (ad3 0)), (2, .int (sumI (al 1) 5)), (3, .int (mnW al N))]) hx hb dX4_isSame_369 hl (by decide) rfl (fun ls hl => ?_)
        refine lv_iconst (v := 0) hx hb dX4_isSame_371 (by decide) ?_
        refine lv_istore (lv' := [(7, .int 0), (6, .ref (ad3 n)), (5, .ref (ad3 (35 + 2 * N + j))), (4, .int (nI j)), (0, .ref (ad3 28)), (1, .ref (ad3 0)), (2, .int (sumI (al 1) 5)), (3, .int (mnW al N))]) hx hb dX4_isSame_372 hl (by decide) rfl (fun ls hl => ?_)
        have L374 : ∀ (kr q : Nat) (H : Heap) (locs : List Loc) (ls : Array Slot), q + kr = 7 → WS D (n + 1) ad3 (sW cy ad3 N B al al (cen ex n (.inl (cy 0, 7, .inl (upd (upd (upd (upd (upd (upd (upd (fun _ => 0) 0 (al (24 + j) 0)) 1 (al (24 + j) 1)) 2 (al (24 + j) 2)) 3 (al (24 + j) 1 - al (24 + j) 2)) 4 (depL (al (24 + j) 1) (al (24 + j) 2))) 5 1) 6 ((al (24 + j) 0 - al (24 + j) 1) - al (24 + j) 2)))))) (Acc n ad s.heap.size) s.heap H locs → lv_has ls 9 [(7, .int (nI q)), (6, .ref (ad3 n)), (5, .ref (ad3 (35 + 2 * N + j))), (4, .int (nI j)), (0, .ref (ad3 28)), (1, .ref (ad3 0)), (2, .int (sumI (al 1) 5)), (3, .int (mnW al N))] → W p l e ({ frames := 7, cells := 19, slots := 111, locals := 144 }) s m args below meth c H locs (((11 + j) + 1)) (((56 + 7 * j) + 7)) (MQD lw_cs below (va_Qi (fun r (_ : Unit) => r = 1) (fun _ _ => True) (Acc n ad s.heap.size)) args s 19 111 (Acc n ad s.heap.size)) (F0 m 374 ls []) := by
          intro kr
          induction kr with
          | zero =>
            intro q H locs ls hjkq hW hl
            have hjNq : q = 7 := by omega
            try rw [hjNq] at hW
            try rw [hjNq] at hl
            refine lv_iload hx hb dX4_isSame_374 (lv_at hl 0 rfl) ?_
            refine lv_bipush (v := 7) hx hb dX4_isSame_376 (by decide) ?_
            refine lv_icmp_ge (tgt := 405) hx hb dX4_isSame_378 (by decide) (fun _ => ?_) (fun h => absurd (by decide) h)
            refine lv_iinc (v := nI (j + 1)) (lv' := [(4, .int (nI (j + 1))), (7, .int (nI 7)), (6, .ref (ad3 n)), (5, .ref (ad3 (35 + 2 * N + j))), (0, .ref (ad3 28)), (1, .ref (ad3 0)), (2, .int (sumI (al 1) 5)), (3, .int (mnW al N))]) hx hb dX4_isSame_405 hl (k := 3) rfl (nI_1 _) (by decide) rfl (fun ls hl => ?_)
            refine lv_goto (tgt := 265) hx hb dX4_isSame_408 (by decide) ?_
            replace hW := sm_drop hW
            refine W.widen (k := 11 + (j + 1)) (n := 56 + 7 * (j + 1)) (by omega) (by omega) ?_
            exact ih (j + 1) ad3 H locs ls (by omega) hW (lv_sub hl [0, 4, 5, 6, 7] rfl)
          | succ kr ihq =>
            intro q H locs ls hjkq hW hl
            have hjq : q < 7 := by omega
            refine lv_iload hx hb dX4_isSame_374 (lv_at hl 0 rfl) ?_
            refine lv_bipush (v := 7) hx hb dX4_isSame_376 (by decide) ?_
            refine lv_icmp_ge (tgt := 405) hx hb dX4_isSame_378 (by decide) (fun h => absurd h (nI_ge (b := 7) hjq (by decide))) (fun _ => ?_)
            refine lv_aload_n hx hb dX4_isSame_381 rfl (lv_at hl 5 rfl) ?_
            refine lv_iload hx hb dX4_isSame_382 (lv_at hl 3 rfl) ?_
            refine lv_iload hx hb dX4_isSame_384 (lv_at hl 0 rfl) ?_
            refine z_cVi (As := [.int (nI j), .int (nI q)]) (rest := []) (k := 0) S hE hW (cX3_boat0_ok l D (n + 1) ad3 cy sa H.size (by omega) al (exS cy ad3 N B al (cen ex n (.inl (cy 0, 7, .inl (upd (upd (upd (upd (upd (upd (upd (fun _ => 0) 0 (al (24 + j) 0)) 1 (al (24 + j) 1)) 2 (al (24 + j) 2)) 3 (al (24 + j) 1 - al (24 + j) 2)) 4 (depL (al (24 + j) 1) (al (24 + j) 2))) 5 1) 6 ((al (24 + j) 0 - al (24 + j) 1) - al (24 + j) 2)))))) B hB hB4 j (by omega) q (by omega)) (cwV 2 hts gX4_isSame_X3_boat rfl rfl rfl (by decide +kernel) ⟨Nat.le_of_ble_eq_true rfl, Nat.le_of_ble_eq_true rfl⟩) (by omega) cC_0 rfl rfl rfl hl.1 rfl (Nat.le_of_ble_eq_true rfl) dX4_isSame_386 ⟨(by dsimp only; omega), (by dsimp only; omega)⟩ (fun r _ H locs hp hW => ?_)
            subst hp
            refine lv_aload hx hb dX4_isSame_389 (lv_at hl 1 rfl) ?_
            refine lv_iload hx hb dX4_isSame_391 (lv_at hl 0 rfl) ?_
            refine z_ald S hE hW (by omega) ((sW_x (by omega)).trans cen_k) q rfl (by omega) (by decide) (v := v_boat al (nI j) (nI q)) ((boat_eq (by omega) (hI.2.1 j (by omega)) (by omega) (if_pos c342).symm (by omega))) dX4_isSame_393 ?_
            refine lv_icmp_eq (tgt := 399) hx hb dX4_isSame_394 (by decide) (fun _ => ?_) (fun h => absurd rfl h)
            refine lv_iinc (v := nI (q + 1)) (lv' := [(7, .int (nI (q + 1))), (6, .ref (ad3 n)), (5, .ref (ad3 (35 + 2 * N + j))), (4, .int (nI j)), (0, .ref (ad3 28)), (1, .ref (ad3 0)), (2, .int (sumI (al 1) 5)), (3, .int (mnW al N))]) hx hb dX4_isSame_399 hl (k := 0) rfl (nI_1 _) (by decide) rfl (fun ls hl => ?_)
            refine lv_goto (tgt := 374) hx hb dX4_isSame_402 (by decide) ?_
            exact ihq (q + 1) H locs ls (by omega) hW (lv_sub hl [0, 1, 2, 3, 4, 5, 6, 7] rfl)
        exact L374 (7) 0 _ _ ls (by omega) hW (lv_sub hl [0, 1, 2, 3, 4, 5, 6, 7] rfl)
  exact L265 (B) 0 ad1 _ _ ls (by omega) hW (lv_sub hl [0, 1, 2, 3, 4] rfl)

set_option maxHeartbeats 8000000 in
set_option maxRecDepth 100000 in
theorem sm_B {p : Program} (l : Launch) {e : Env} {s : State} {m : MethodId} {args : Array Value} {below : List Frame} {meth : Method} {c : Code} {D : va_G} {n : Nat} {ad ad1 cy sa : Nat → Nat} {N B h : Nat} {al : Nat → Nat → Int32} {ex : Nat → va_E} {H : Heap} {locs : List Loc} {ls : Array Slot} (hfl : l.stackTraces = false) (S : CallFix p m c cX4_isSame 9 s args wsX4_isSame RX4) (hd0 : s.drawn.sameBut s.drawn lw_cs) (hE : ZEnv D cy sa (Acc n ad s.heap.size) s) (hr : meth.sig.returnType = some .boolean) (hlk : meth.locks = false) (hI : InvT al N B h) (hh3 : h < 2 ^ 20) (hn : 35 + 2 * N + B ≤ n) (hW : WS D n ad1 (sW cy ad1 N B al al ex) (Acc n ad s.heap.size) s.heap H locs) (hl : lv_has ls 9 [(0, .ref (ad1 28)), (1, .ref (ad1 0)), (2, .int (sumI (al 1) 5)), (3, .int 0)]) : W p l e ({ frames := 7, cells := 19, slots := 111, locals := 144 }) s m args below meth c H locs 5 20 (MQD lw_cs below (va_Qi (fun r (_ : Unit) => r = 1) (fun _ _ => True) (Acc n ad s.heap.size)) args s 19 111 (Acc n ad s.heap.size)) (F0 m 116 ls []) := by
  have hx := S.1
  have hb := S.2.1
  have hown := S.2.2.2.1
  have hts := S.2.2.2.2
  have hN := hI.1.1.1
  have hN6 := hI.1.1.2.1
  have hB := hI.1.1.2.2.1
  have hB4 := hI.1.1.2.2.2.1
  have hh := hI.1.1.2.2.2.2
  have hab := hI.1.ab
  have f21 := hts (.fieldLink RX4 21 "PumiceSledgeLaw$Sim" "sledges" "[LPumiceSledgeLaw$Sledge;") (by decide +kernel)
  have hi4 : ∀ w ∈ wsX40, w ∈ wsX4_isSame := by decide +kernel
  have f49 := hts (.fieldLink RX4 49 "PumiceSledgeLaw$Sledge" "sacks" "[I") (by decide +kernel)
  have hi5 : ∀ w ∈ wsX50, w ∈ wsX4_isSame := by decide +kernel
  have har := hts (.arrayClass .int) (by decide +kernel)
  have f81 := hts (.fieldLink RX4 81 "PumiceSledgeLaw$Sledge" "holds" "I") (by decide +kernel)
  have f63 := hts (.fieldLink RX4 63 "PumiceSledgeLaw$Sledge" "height" "I") (by decide +kernel)
  have f56 := hts (.fieldLink RX4 56 "PumiceSledgeLaw$Sledge" "way" "I") (by decide +kernel)
  have in_L := hts (.initialized RL) (by decide +kernel)
  have stt_L_kind := hts (.static yL_kind) (by decide +kernel)
  refine lv_iconst (v := 0) hx hb dX4_isSame_116 (by decide) ?_
  refine lv_istore (lv' := [(4, .int 0), (0, .ref (ad1 28)), (1, .ref (ad1 0)), (2, .int (sumI (al 1) 5)), (3, .int 0)]) hx hb dX4_isSame_117 hl (by decide) rfl (fun ls hl => ?_)
  have L119 : ∀ (kq j : Nat) (ad2 : Nat → Nat) (H : Heap) (locs : List Loc) (ls : Array Slot), j + kq = N → WS D n ad2 (sW cy ad2 N B al al ex) (Acc n ad s.heap.size) s.heap H locs → lv_has ls 9 [(4, .int (nI j)), (0, .ref (ad2 28)), (1, .ref (ad2 0)), (2, .int (sumI (al 1) 5)), (3, .int (mnW al j))] → W p l e ({ frames := 7, cells := 19, slots := 111, locals := 144 }) s m args below meth c H locs (5 + j) (20 + 6 * j) (MQD lw_cs below (va_Qi (fun r (_ : Unit) => r = 1) (fun _ _ => True) (Acc n ad s.heap.size)) args s 19 111 (Acc n ad s.heap.size)) (F0 m 119 ls []) := by
    intro kq
    induction kq with
    | zero =>
      intro j ad2 H locs ls hjk hW hl
      have hjN : j = N := by omega
      try rw [hjN] at hW
      try rw [hjN] at hl
      refine lv_iload hx hb dX4_isSame_119 (lv_at hl 0 rfl) ?_
      refine lv_aload_n hx hb dX4_isSame_121 rfl (lv_at hl 1 rfl) ?_
      refine z_get (C := RX4) (T := TX4) (N := 9) (ci := 4) S hE hW hi4 rfl (by omega) sW_28 3 (by decide) rfl f21 (v := .ref (ad2 33)) rfl dX4_isSame_122 ?_
      refine z_alenG (t0 := 4) S hE hW (by omega) sW_33 rfl (v := nI N) rfl dX4_isSame_125 ?_
      refine lv_icmp_ge (tgt := 262) hx hb dX4_isSame_126 (by decide) (fun _ => ?_) (fun h => absurd (nI_le (a := N) (Nat.le_refl _) (by omega)) h)
      refine W.widen (k := 11) (n := 56) (by omega) (by omega) ?_
      exact sm_C l hfl S hd0 hE hr hlk hI hh3 hn hW (lv_sub hl [1, 2, 3, 4] rfl)
    | succ kq ih =>
      intro j ad2 H locs ls hjk hW hl
      have hj : j < N := by omega
      obtain ⟨a, ha, ha8⟩ := hab j (by omega)
      refine lv_iload hx hb dX4_isSame_119 (lv_at hl 0 rfl) ?_
      refine lv_aload_n hx hb dX4_isSame_121 rfl (lv_at hl 1 rfl) ?_
      refine z_get (C := RX4) (T := TX4) (N := 9) (ci := 4) S hE hW hi4 rfl (by omega) sW_28 3 (by decide) rfl f21 (v := .ref (ad2 33)) rfl dX4_isSame_122 ?_
      refine z_alenG (t0 := 4) S hE hW (by omega) sW_33 rfl (v := nI N) rfl dX4_isSame_125 ?_
      refine lv_icmp_ge (tgt := 262) hx hb dX4_isSame_126 (by decide) (fun h => absurd h (nI_ge (b := N) hj (by omega))) (fun _ => ?_)
      refine lv_aload_n hx hb dX4_isSame_129 rfl (lv_at hl 1 rfl) ?_
      refine z_get (C := RX4) (T := TX4) (N := 9) (ci := 4) S hE hW hi4 rfl (by omega) sW_28 3 (by decide) rfl f21 (v := .ref (ad2 33)) rfl dX4_isSame_130 ?_
      refine lv_iload hx hb dX4_isSame_133 (lv_at hl 0 rfl) ?_
      refine z_aldq (t0 := 4) (C := RX5) S hE hW (by omega) sW_33 rfl j rfl (by omega) (by omega) (v := .ref (ad2 (35 + 2 * j))) rfl dX4_isSame_135 ?_
      refine lv_astore (lv' := [(5, .ref (ad2 (35 + 2 * j))), (4, .int (nI j)), (0, .ref (ad2 28)), (1, .ref (ad2 0)), (2, .int (sumI (al 1) 5)), (3, .int (mnW al j))]) hx hb dX4_isSame_136 hl (by decide) rfl (fun ls hl => ?_)
      refine lv_aload hx hb dX4_isSame_138 (lv_at hl 0 rfl) ?_
      refine z_get (C := RX5) (T := TX5) (N := 4) (ci := 5) S hE hW hi5 rfl (by omega) (sW_so (i := j) hj) 3 (by decide) rfl f49 (v := .ref (ad2 (36 + 2 * j))) rfl dX4_isSame_140 ?_
      refine z_alenG (t0 := 0) S hE hW (by omega) (sW_sal hj ha (by omega)) rfl (v := nI a) rfl dX4_isSame_143 ?_
      refine lv_istore (lv' := [(6, .int (nI a)), (5, .ref (ad2 (35 + 2 * j))), (4, .int (nI j)), (0, .ref (ad2 28)), (1, .ref (ad2 0)), (2, .int (sumI (al 1) 5)), (3, .int (mnW al j))]) hx hb dX4_isSame_144 hl (by decide) rfl (fun ls hl => ?_)
      refine lv_bipush (v := 6) hx hb dX4_isSame_146 (by decide) ?_
      refine z_newI (M := 6) S hE (by omega) hW har rfl (by decide) (by dsimp only; omega) (by dsimp only; omega) dX4_isSame_148 (fun ad3 H had3 hW => ?_)
      replace hl : lv_has ls 9 [(6, .int (nI a)), (5, .ref (ad3 (35 + 2 * j))), (4, .int (nI j)), (0, .ref (ad3 28)), (1, .ref (ad3 0)), (2, .int (sumI (al 1) 5)), (3, .int (mnW al j))] := by
        rw [had3 (35 + 2 * j) (by omega), had3 28 (by omega), had3 0 (by omega)]; exact hl
      refine lv_dup hx hb dX4_isSame_150 rfl ?_
      refine lv_iconst (v := 0) hx hb dX4_isSame_151 (by decide) ?_
      refine lv_aload hx hb dX4_isSame_152 (lv_at hl 1 rfl) ?_
      refine z_get (C := RX5) (T := TX5) (N := 4) (ci := 5) S hE hW hi5 rfl (by omega) (sW_so (i := j) hj) 0 (by decide) rfl f81 (v := .int (al (10 + j) 0)) rfl dX4_isSame_154 ?_
      refine z_ast (ce' := sW cy ad3 N B al al (cen ex n (.inl (cy 0, 6, .inl (upd (fun _ => 0) 0 (al (10 + j) 0)))))) S hE hW (by omega) ((sW_x (by omega)).trans cen_k) 0 rfl (by decide) (by decide) ((sW_x (by omega)).trans cen_k) (fun j h => sW_ext (cen_oo h)) dX4_isSame_157 (fun H locs hW => ?_)
      refine lv_dup hx hb dX4_isSame_158 rfl ?_
      refine lv_iconst (v := 1) hx hb dX4_isSame_159 (by decide) ?_
      refine lv_iload hx hb dX4_isSame_160 (lv_at hl 0 rfl) ?_
      refine z_ast (ce' := sW cy ad3 N B al al (cen ex n (.inl (cy 0, 6, .inl (upd (upd (fun _ => 0) 0 (al (10 + j) 0)) 1 (nI a)))))) S hE hW (by omega) ((sW_x (by omega)).trans cen_k) 1 rfl (by decide) (by decide) ((sW_x (by omega)).trans cen_k) (fun j h => sW_ext (cen_oo h)) dX4_isSame_162 (fun H locs hW => ?_)
      refine lv_dup hx hb dX4_isSame_163 rfl ?_
      refine lv_iconst (v := 2) hx hb dX4_isSame_164 (by decide) ?_
      refine lv_aload hx hb dX4_isSame_165 (lv_at hl 1 rfl) ?_
      refine z_get (C := RX5) (T := TX5) (N := 4) (ci := 5) S hE hW hi5 rfl (by omega) (sW_so (i := j) hj) 1 (by decide) rfl f63 (v := .int (al (10 + j) 3)) rfl dX4_isSame_167 ?_
      refine z_ast (ce' := sW cy ad3 N B al al (cen ex n (.inl (cy 0, 6, .inl (upd (upd (upd (fun _ => 0) 0 (al (10 + j) 0)) 1 (nI a)) 2 (al (10 + j) 3)))))) S hE hW (by omega) ((sW_x (by omega)).trans cen_k) 2 rfl (by decide) (by decide) ((sW_x (by omega)).trans cen_k) (fun j h => sW_ext (cen_oo h)) dX4_isSame_170 (fun H locs hW => ?_)
      refine lv_dup hx hb dX4_isSame_171 rfl ?_
      refine lv_iconst (v := 3) hx hb dX4_isSame_172 (by decide) ?_
      refine lv_aload hx hb dX4_isSame_173 (lv_at hl 1 rfl) ?_
      refine z_get (C := RX5) (T := TX5) (N := 4) (ci := 5) S hE hW hi5 rfl (by omega) (sW_so (i := j) hj) 2 (by decide) rfl f56 (v := .int (al (10 + j) 4)) rfl dX4_isSame_175 ?_
      refine z_ast (ce' := sW cy ad3 N B al al (cen ex n (.inl (cy 0, 6, .inl (upd (upd (upd (upd (fun _ => 0) 0 (al (10 + j) 0)) 1 (nI a)) 2 (al (10 + j) 3)) 3 (al (10 + j) 4)))))) S hE hW (by omega) ((sW_x (by omega)).trans cen_k) 3 rfl (by decide) (by decide) ((sW_x (by omega)).trans cen_k) (fun j h => sW_ext (cen_oo h)) dX4_isSame_178 (fun H locs hW => ?_)
      refine lv_dup hx hb dX4_isSame_179 rfl ?_
      refine lv_iconst (v := 4) hx hb dX4_isSame_180 (by decide) ?_
      refine lv_aload hx hb dX4_isSame_181 (lv_at hl 1 rfl) ?_
      refine z_cVi (As := []) (rest := [.int 4, .ref (ad3 n), .ref (ad3 n)]) (k := (35 + 2 * j)) S hE hW (cX5_weight_ok l D (n + 1) ad3 cy sa H.size N B (by omega) (by omega) (by omega) al al (cen ex n (.inl (cy 0, 6, .inl (upd (upd (upd (upd (fun _ => 0) 0 (al (10 + j) 0)) 1 (nI a)) 2 (al (10 + j) 3)) 3 (al (10 + j) 4))))) j (by omega) a (ha) (by omega)) (cwV 0 hts gX4_isSame_X5_weight rfl rfl rfl (by decide +kernel) ⟨Nat.le_of_ble_eq_true rfl, Nat.le_of_ble_eq_true rfl⟩) (by omega) (sW_so (i := j) hj) rfl rfl rfl hl.1 rfl (Nat.le_of_ble_eq_true rfl) dX4_isSame_183 ⟨(by dsimp only; omega), (by dsimp only; omega)⟩ (fun r _ H locs hp hW => ?_)
      subst hp
      refine z_ast (ce' := sW cy ad3 N B al al (cen ex n (.inl (cy 0, 6, .inl (upd (upd (upd (upd (upd (fun _ => 0) 0 (al (10 + j) 0)) 1 (nI a)) 2 (al (10 + j) 3)) 3 (al (10 + j) 4)) 4 (sumI (al (17 + j)) a)))))) S hE hW (by omega) ((sW_x (by omega)).trans cen_k) 4 rfl (by decide) (by decide) ((sW_x (by omega)).trans cen_k) (fun j h => sW_ext (cen_oo h)) dX4_isSame_186 (fun H locs hW => ?_)
      refine lv_dup hx hb dX4_isSame_187 rfl ?_
      refine lv_iconst (v := 5) hx hb dX4_isSame_188 (by decide) ?_
      refine lv_iload hx hb dX4_isSame_189 (lv_at hl 0 rfl) ?_
      refine lv_if_ne (tgt := 198) hx hb dX4_isSame_191 (by decide) (fun c191 => ?_) (fun c191 => ?_)
      · have ha0 : 0 < a := Nat.pos_of_ne_zero (fun q => c191 (by rw [q]; exact nI_0))
        refine lv_aload hx hb dX4_isSame_198 (lv_at hl 1 rfl) ?_
        refine z_get (C := RX5) (T := TX5) (N := 4) (ci := 5) S hE hW hi5 rfl (by omega) (sW_so (i := j) hj) 3 (by decide) rfl f49 (v := .ref (ad3 (36 + 2 * j))) rfl dX4_isSame_200 ?_
        refine lv_iload hx hb dX4_isSame_203 (lv_at hl 0 rfl) ?_
        refine lv_iconst (v := 1) hx hb dX4_isSame_205 (by decide) ?_
        refine lv_isub hx hb dX4_isSame_206 ?_
        refine z_top2 (y := nI (a - 1)) (pk_sub (a := a) (b := 1) (by omega)) ?_
        refine z_ald S hE hW (by omega) (sW_sal hj ha (by omega)) (a - 1) rfl (by first | omega | exact blN_lt (by omega) (by omega)) (by omega) (v := al (17 + j) (a - 1)) rfl dX4_isSame_207 ?_
        refine z_pSN (As := [.int (al (17 + j) (a - 1))]) (rest := [.int 5, .ref (ad3 n), .ref (ad3 n)]) S hE hW (cL_kind_ok l (al (17 + j) (a - 1))) (⟨va_cnB 1 hts gX4_isSame_L_kind_n66 rfl rfl rfl (hE.1.2.1.at 7 rfl) in_L (by decide +kernel) ⟨Nat.le_of_ble_eq_true rfl, Nat.le_of_ble_eq_true rfl⟩, stt_L_kind, trivial⟩) rfl hl.1 rfl (Nat.le_of_ble_eq_true rfl) dX4_isSame_208 ⟨(by dsimp only; omega), (by dsimp only; omega)⟩ (fun H locs hW => ?_)
        refine z_ast (ce' := sW cy ad3 N B al al (cen ex n (.inl (cy 0, 6, .inl (upd (upd (upd (upd (upd (upd (fun _ => 0) 0 (al (10 + j) 0)) 1 (nI a)) 2 (al (10 + j) 3)) 3 (al (10 + j) 4)) 4 (sumI (al (17 + j)) a)) 5 (knd (al (17 + j) (a - 1)))))))) S hE hW (by omega) ((sW_x (by omega)).trans cen_k) 5 rfl (by decide) (by decide) ((sW_x (by omega)).trans cen_k) (fun j h => sW_ext (cen_oo h)) dX4_isSame_211 (fun H locs hW => ?_)
        refine lv_astore (lv' := [(7, .ref (ad3 n)), (6, .int (nI a)), (5, .ref (ad3 (35 + 2 * j))), (4, .int (nI j)), (0, .ref (ad3 28)), (1, .ref (ad3 0)), (2, .int (sumI (al 1) 5)), (3, .int (mnW al j))]) hx hb dX4_isSame_212 hl (by decide) rfl (fun ls hl => ?_)
        refine lv_iconst (v := 0) hx hb dX4_isSame_214 (by decide) ?_
        refine lv_istore (lv' := [(8, .int 0), (7, .ref (ad3 n)), (6, .int (nI a)), (5, .ref (ad3 (35 + 2 * j))), (4, .int (nI j)), (0, .ref (ad3 28)), (1, .ref (ad3 0)), (2, .int (sumI (al 1) 5)), (3, .int (mnW al j))]) hx hb dX4_isSame_215 hl (by decide) rfl (fun ls hl => ?_)
        have L217 : ∀ (kr q : Nat) (H : Heap) (locs : List Loc) (ls : Array Slot), q + kr = 6 → WS D (n + 1) ad3 (sW cy ad3 N B al al (cen ex n (.inl (cy 0, 6, .inl (upd (upd (upd (upd (upd (upd (fun _ => 0) 0 (al (10 + j) 0)) 1 (nI a)) 2 (al (10 + j) 3)) 3 (al (10 + j) 4)) 4 (sumI (al (17 + j)) a)) 5 (knd (al (17 + j) (a - 1)))))))) (Acc n ad s.heap.size) s.heap H locs → lv_has ls 9 [(8, .int (nI q)), (7, .ref (ad3 n)), (5, .ref (ad3 (35 + 2 * j))), (6, .int (nI a)), (4, .int (nI j)), (0, .ref (ad3 28)), (1, .ref (ad3 0)), (2, .int (sumI (al 1) 5)), (3, .int (mnW al j))] → W p l e ({ frames := 7, cells := 19, slots := 111, locals := 144 }) s m args below meth c H locs (((5 + j) + 1)) (((20 + 6 * j) + 6)) (MQD lw_cs below (va_Qi (fun r (_ : Unit) => r = 1) (fun _ _ => True) (Acc n ad s.heap.size)) args s 19 111 (Acc n ad s.heap.size)) (F0 m 217 ls []) := by
          intro kr
          induction kr with
          | zero =>
            intro q H locs ls hjkq hW hl
            have hjNq : q = 6 := by omega
            try rw [hjNq] at hW
            try rw [hjNq] at hl
            refine lv_iload hx hb dX4_isSame_217 (lv_at hl 0 rfl) ?_
            refine lv_bipush (v := 6) hx hb dX4_isSame_219 (by decide) ?_
            refine lv_icmp_ge (tgt := 248) hx hb dX4_isSame_221 (by decide) (fun _ => ?_) (fun h => absurd (by decide) h)
            refine lv_iload_n hx hb dX4_isSame_248 rfl (lv_at hl 8 rfl) ?_
            refine lv_aload hx hb dX4_isSame_249 (lv_at hl 2 rfl) ?_
            refine z_cVi (As := []) (rest := [.int (mnW al j)]) (k := (35 + 2 * j)) S hE hW (cX5_weight_ok l D (n + 1) ad3 cy sa H.size N B (by omega) (by omega) (by omega) al al (cen ex n (.inl (cy 0, 6, .inl (upd (upd (upd (upd (upd (upd (fun _ => 0) 0 (al (10 + j) 0)) 1 (nI a)) 2 (al (10 + j) 3)) 3 (al (10 + j) 4)) 4 (sumI (al (17 + j)) a)) 5 (knd (al (17 + j) (a - 1))))))) j (by omega) a (ha) (by omega)) (cwV 0 hts gX4_isSame_X5_weight rfl rfl rfl (by decide +kernel) ⟨Nat.le_of_ble_eq_true rfl, Nat.le_of_ble_eq_true rfl⟩) (by omega) (sW_so (i := j) hj) rfl rfl rfl hl.1 rfl (Nat.le_of_ble_eq_true rfl) dX4_isSame_251 ⟨(by dsimp only; omega), (by dsimp only; omega)⟩ (fun r _ H locs hp hW => ?_)
            subst hp
            refine z_top2 (y := sumI (al (17 + j)) (ix (al (10 + j) 2))) (by rw [ha, ix_nI (show a < 2 ^ 31 by omega)]) ?_
            refine lv_iadd hx hb dX4_isSame_254 ?_
            refine lv_istore_n (lv' := [(3, .int (mnW al j + sumI (al (17 + j)) (ix (al (10 + j) 2)))), (8, .int (nI 6)), (7, .ref (ad3 n)), (5, .ref (ad3 (35 + 2 * j))), (6, .int (nI a)), (4, .int (nI j)), (0, .ref (ad3 28)), (1, .ref (ad3 0)), (2, .int (sumI (al 1) 5))]) hx hb dX4_isSame_255 rfl hl (by decide) rfl (fun ls hl => ?_)
            refine lv_iinc (v := nI (j + 1)) (lv' := [(4, .int (nI (j + 1))), (3, .int (mnW al j + sumI (al (17 + j)) (ix (al (10 + j) 2)))), (8, .int (nI 6)), (7, .ref (ad3 n)), (5, .ref (ad3 (35 + 2 * j))), (6, .int (nI a)), (0, .ref (ad3 28)), (1, .ref (ad3 0)), (2, .int (sumI (al 1) 5))]) hx hb dX4_isSame_256 hl (k := 5) rfl (nI_1 _) (by decide) rfl (fun ls hl => ?_)
            refine lv_goto (tgt := 119) hx hb dX4_isSame_259 (by decide) ?_
            replace hW := sm_drop hW
            refine W.widen (k := 5 + (j + 1)) (n := 20 + 6 * (j + 1)) (by omega) (by omega) ?_
            exact ih (j + 1) ad3 H locs ls (by omega) hW (lv_sub hl [0, 6, 7, 8, 1] rfl)
          | succ kr ihq =>
            intro q H locs ls hjkq hW hl
            have hjq : q < 6 := by omega
            refine lv_iload hx hb dX4_isSame_217 (lv_at hl 0 rfl) ?_
            refine lv_bipush (v := 6) hx hb dX4_isSame_219 (by decide) ?_
            refine lv_icmp_ge (tgt := 248) hx hb dX4_isSame_221 (by decide) (fun h => absurd h (nI_ge (b := 6) hjq (by decide))) (fun _ => ?_)
            refine lv_aload_n hx hb dX4_isSame_224 rfl (lv_at hl 6 rfl) ?_
            refine lv_iload hx hb dX4_isSame_225 (lv_at hl 4 rfl) ?_
            refine lv_iload hx hb dX4_isSame_227 (lv_at hl 0 rfl) ?_
            refine z_cVi (As := [.int (nI j), .int (nI q)]) (rest := []) (k := 0) S hE hW (cX3_told0_ok l D (n + 1) ad3 cy sa H.size (by omega) al (exS cy ad3 N B al (cen ex n (.inl (cy 0, 6, .inl (upd (upd (upd (upd (upd (upd (fun _ => 0) 0 (al (10 + j) 0)) 1 (nI a)) 2 (al (10 + j) 3)) 3 (al (10 + j) 4)) 4 (sumI (al (17 + j)) a)) 5 (knd (al (17 + j) (a - 1)))))))) N hN hN6 hab j (by omega) q (by omega)) (cwV 2 hts gX4_isSame_X3_told rfl rfl rfl (by decide +kernel) ⟨Nat.le_of_ble_eq_true rfl, Nat.le_of_ble_eq_true rfl⟩) (by omega) cC_0 rfl rfl rfl hl.1 rfl (Nat.le_of_ble_eq_true rfl) dX4_isSame_229 ⟨(by dsimp only; omega), (by dsimp only; omega)⟩ (fun r _ H locs hp hW => ?_)
            subst hp
            refine lv_aload hx hb dX4_isSame_232 (lv_at hl 1 rfl) ?_
            refine lv_iload hx hb dX4_isSame_234 (lv_at hl 0 rfl) ?_
            refine z_ald S hE hW (by omega) ((sW_x (by omega)).trans cen_k) q rfl (by omega) (by decide) (v := v_told al (nI j) (nI q)) ((told_p (by omega) ha ha8 ha0 (by omega))) dX4_isSame_236 ?_
            refine lv_icmp_eq (tgt := 242) hx hb dX4_isSame_237 (by decide) (fun _ => ?_) (fun h => absurd rfl h)
            refine lv_iinc (v := nI (q + 1)) (lv' := [(8, .int (nI (q + 1))), (7, .ref (ad3 n)), (5, .ref (ad3 (35 + 2 * j))), (6, .int (nI a)), (4, .int (nI j)), (0, .ref (ad3 28)), (1, .ref (ad3 0)), (2, .int (sumI (al 1) 5)), (3, .int (mnW al j))]) hx hb dX4_isSame_242 hl (k := 0) rfl (nI_1 _) (by decide) rfl (fun ls hl => ?_)
            refine lv_goto (tgt := 217) hx hb dX4_isSame_245 (by decide) ?_
            exact ihq (q + 1) H locs ls (by omega) hW (lv_sub hl [0, 1, 2, 3, 4, 5, 6, 7, 8] rfl)
        exact L217 (6) 0 _ _ ls (by omega) hW (lv_sub hl [0, 1, 3, 2, 4, 5, 6, 7, 8] rfl)
      · refine lv_iconst (v := (-1)) hx hb dX4_isSame_194 (by decide) ?_
        refine lv_goto (tgt := 211) hx hb dX4_isSame_195 (by decide) ?_
        refine z_ast (ce' := sW cy ad3 N B al al (cen ex n (.inl (cy 0, 6, .inl (upd (upd (upd (upd (upd (upd (fun _ => 0) 0 (al (10 + j) 0)) 1 (nI a)) 2 (al (10 + j) 3)) 3 (al (10 + j) 4)) 4 (sumI (al (17 + j)) a)) 5 (-1)))))) S hE hW (by omega) ((sW_x (by omega)).trans cen_k) 5 rfl (by decide) (by decide) ((sW_x (by omega)).trans cen_k) (fun j h => sW_ext (cen_oo h)) dX4_isSame_211 (fun H locs hW => ?_)
        refine lv_astore (lv' := [(7, .ref (ad3 n)), (6, .int (nI a)), (5, .ref (ad3 (35 + 2 * j))), (4, .int (nI j)), (0, .ref (ad3 28)), (1, .ref (ad3 0)), (2, .int (sumI (al 1) 5)), (3, .int (mnW al j))]) hx hb dX4_isSame_212 hl (by decide) rfl (fun ls hl => ?_)
        refine lv_iconst (v := 0) hx hb dX4_isSame_214 (by decide) ?_
        refine lv_istore (lv' := [(8, .int 0), (7, .ref (ad3 n)), (6, .int (nI a)), (5, .ref (ad3 (35 + 2 * j))), (4, .int (nI j)), (0, .ref (ad3 28)), (1, .ref (ad3 0)), (2, .int (sumI (al 1) 5)), (3, .int (mnW al j))]) hx hb dX4_isSame_215 hl (by decide) rfl (fun ls hl => ?_)
        have L217 : ∀ (kr q : Nat) (H : Heap) (locs : List Loc) (ls : Array Slot), q + kr = 6 → WS D (n + 1) ad3 (sW cy ad3 N B al al (cen ex n (.inl (cy 0, 6, .inl (upd (upd (upd (upd (upd (upd (fun _ => 0) 0 (al (10 + j) 0)) 1 (nI a)) 2 (al (10 + j) 3)) 3 (al (10 + j) 4)) 4 (sumI (al (17 + j)) a)) 5 (-1)))))) (Acc n ad s.heap.size) s.heap H locs → lv_has ls 9 [(8, .int (nI q)), (7, .ref (ad3 n)), (5, .ref (ad3 (35 + 2 * j))), (6, .int (nI a)), (4, .int (nI j)), (0, .ref (ad3 28)), (1, .ref (ad3 0)), (2, .int (sumI (al 1) 5)), (3, .int (mnW al j))] → W p l e ({ frames := 7, cells := 19, slots := 111, locals := 144 }) s m args below meth c H locs (((5 + j) + 1)) (((20 + 6 * j) + 6)) (MQD lw_cs below (va_Qi (fun r (_ : Unit) => r = 1) (fun _ _ => True) (Acc n ad s.heap.size)) args s 19 111 (Acc n ad s.heap.size)) (F0 m 217 ls []) := by
          intro kr
          induction kr with
          | zero =>
            intro q H locs ls hjkq hW hl
            have hjNq : q = 6 := by omega
            try rw [hjNq] at hW
            try rw [hjNq] at hl
            refine lv_iload hx hb dX4_isSame_217 (lv_at hl 0 rfl) ?_
            refine lv_bipush (v := 6) hx hb dX4_isSame_219 (by decide) ?_
            refine lv_icmp_ge (tgt := 248) hx hb dX4_isSame_221 (by decide) (fun _ => ?_) (fun h => absurd (by decide) h)
            refine lv_iload_n hx hb dX4_isSame_248 rfl (lv_at hl 8 rfl) ?_
            refine lv_aload hx hb dX4_isSame_249 (lv_at hl 2 rfl) ?_
            refine z_cVi (As := []) (rest := [.int (mnW al j)]) (k := (35 + 2 * j)) S hE hW (cX5_weight_ok l D (n + 1) ad3 cy sa H.size N B (by omega) (by omega) (by omega) al al (cen ex n (.inl (cy 0, 6, .inl (upd (upd (upd (upd (upd (upd (fun _ => 0) 0 (al (10 + j) 0)) 1 (nI a)) 2 (al (10 + j) 3)) 3 (al (10 + j) 4)) 4 (sumI (al (17 + j)) a)) 5 (-1))))) j (by omega) a (ha) (by omega)) (cwV 0 hts gX4_isSame_X5_weight rfl rfl rfl (by decide +kernel) ⟨Nat.le_of_ble_eq_true rfl, Nat.le_of_ble_eq_true rfl⟩) (by omega) (sW_so (i := j) hj) rfl rfl rfl hl.1 rfl (Nat.le_of_ble_eq_true rfl) dX4_isSame_251 ⟨(by dsimp only; omega), (by dsimp only; omega)⟩ (fun r _ H locs hp hW => ?_)
            subst hp
            refine z_top2 (y := sumI (al (17 + j)) (ix (al (10 + j) 2))) (by rw [ha, ix_nI (show a < 2 ^ 31 by omega)]) ?_
            refine lv_iadd hx hb dX4_isSame_254 ?_
            refine lv_istore_n (lv' := [(3, .int (mnW al j + sumI (al (17 + j)) (ix (al (10 + j) 2)))), (8, .int (nI 6)), (7, .ref (ad3 n)), (5, .ref (ad3 (35 + 2 * j))), (6, .int (nI a)), (4, .int (nI j)), (0, .ref (ad3 28)), (1, .ref (ad3 0)), (2, .int (sumI (al 1) 5))]) hx hb dX4_isSame_255 rfl hl (by decide) rfl (fun ls hl => ?_)
            refine lv_iinc (v := nI (j + 1)) (lv' := [(4, .int (nI (j + 1))), (3, .int (mnW al j + sumI (al (17 + j)) (ix (al (10 + j) 2)))), (8, .int (nI 6)), (7, .ref (ad3 n)), (5, .ref (ad3 (35 + 2 * j))), (6, .int (nI a)), (0, .ref (ad3 28)), (1, .ref (ad3 0)), (2, .int (sumI (al 1) 5))]) hx hb dX4_isSame_256 hl (k := 5) rfl (nI_1 _) (by decide) rfl (fun ls hl => ?_)
            refine lv_goto (tgt := 119) hx hb dX4_isSame_259 (by decide) ?_
            replace hW := sm_drop hW
            refine W.widen (k := 5 + (j + 1)) (n := 20 + 6 * (j + 1)) (by omega) (by omega) ?_
            exact ih (j + 1) ad3 H locs ls (by omega) hW (lv_sub hl [0, 6, 7, 8, 1] rfl)
          | succ kr ihq =>
            intro q H locs ls hjkq hW hl
            have hjq : q < 6 := by omega
            refine lv_iload hx hb dX4_isSame_217 (lv_at hl 0 rfl) ?_
            refine lv_bipush (v := 6) hx hb dX4_isSame_219 (by decide) ?_
            refine lv_icmp_ge (tgt := 248) hx hb dX4_isSame_221 (by decide) (fun h => absurd h (nI_ge (b := 6) hjq (by decide))) (fun _ => ?_)
            refine lv_aload_n hx hb dX4_isSame_224 rfl (lv_at hl 6 rfl) ?_
            refine lv_iload hx hb dX4_isSame_225 (lv_at hl 4 rfl) ?_
            refine lv_iload hx hb dX4_isSame_227 (lv_at hl 0 rfl) ?_
            refine z_cVi (As := [.int (nI j), .int (nI q)]) (rest := []) (k := 0) S hE hW (cX3_told0_ok l D (n + 1) ad3 cy sa H.size (by omega) al (exS cy ad3 N B al (cen ex n (.inl (cy 0, 6, .inl (upd (upd (upd (upd (upd (upd (fun _ => 0) 0 (al (10 + j) 0)) 1 (nI a)) 2 (al (10 + j) 3)) 3 (al (10 + j) 4)) 4 (sumI (al (17 + j)) a)) 5 (-1)))))) N hN hN6 hab j (by omega) q (by omega)) (cwV 2 hts gX4_isSame_X3_told rfl rfl rfl (by decide +kernel) ⟨Nat.le_of_ble_eq_true rfl, Nat.le_of_ble_eq_true rfl⟩) (by omega) cC_0 rfl rfl rfl hl.1 rfl (Nat.le_of_ble_eq_true rfl) dX4_isSame_229 ⟨(by dsimp only; omega), (by dsimp only; omega)⟩ (fun r _ H locs hp hW => ?_)
            subst hp
            refine lv_aload hx hb dX4_isSame_232 (lv_at hl 1 rfl) ?_
            refine lv_iload hx hb dX4_isSame_234 (lv_at hl 0 rfl) ?_
            refine z_ald S hE hW (by omega) ((sW_x (by omega)).trans cen_k) q rfl (by omega) (by decide) (v := v_told al (nI j) (nI q)) ((told_z (by omega) ha ha8 c191 (by omega))) dX4_isSame_236 ?_
            refine lv_icmp_eq (tgt := 242) hx hb dX4_isSame_237 (by decide) (fun _ => ?_) (fun h => absurd rfl h)
            refine lv_iinc (v := nI (q + 1)) (lv' := [(8, .int (nI (q + 1))), (7, .ref (ad3 n)), (5, .ref (ad3 (35 + 2 * j))), (6, .int (nI a)), (4, .int (nI j)), (0, .ref (ad3 28)), (1, .ref (ad3 0)), (2, .int (sumI (al 1) 5)), (3, .int (mnW al j))]) hx hb dX4_isSame_242 hl (k := 0) rfl (nI_1 _) (by decide) rfl (fun ls hl => ?_)
            refine lv_goto (tgt := 217) hx hb dX4_isSame_245 (by decide) ?_
            exact ihq (q + 1) H locs ls (by omega) hW (lv_sub hl [0, 1, 2, 3, 4, 5, 6, 7, 8] rfl)
        exact L217 (6) 0 _ _ ls (by omega) hW (lv_sub hl [0, 1, 3, 2, 4, 5, 6, 7, 8] rfl)
  exact L119 (N) 0 ad1 _ _ ls (by omega) hW (lv_sub hl [0, 1, 2, 3, 4] rfl)

set_option maxHeartbeats 8000000 in
set_option maxRecDepth 100000 in
theorem sm_A {p : Program} (l : Launch) {e : Env} {s : State} {m : MethodId} {args : Array Value} {below : List Frame} {meth : Method} {c : Code} {D : va_G} {n : Nat} {ad ad1 cy sa : Nat → Nat} {N B h : Nat} {al : Nat → Nat → Int32} {ex : Nat → va_E} {H : Heap} {locs : List Loc} {ls : Array Slot} (hfl : l.stackTraces = false) (S : CallFix p m c cX4_isSame 9 s args wsX4_isSame RX4) (hd0 : s.drawn.sameBut s.drawn lw_cs) (hE : ZEnv D cy sa (Acc n ad s.heap.size) s) (hr : meth.sig.returnType = some .boolean) (hlk : meth.locks = false) (hI : InvT al N B h) (hh3 : h < 2 ^ 20) (hn : 35 + 2 * N + B ≤ n) (hW : WS D n ad1 (sW cy ad1 N B al al ex) (Acc n ad s.heap.size) s.heap H locs) (hl : lv_has ls 9 [(0, .ref (ad1 28)), (1, .ref (ad1 0)), (2, .int 0), (3, .int 0)]) : W p l e ({ frames := 7, cells := 19, slots := 111, locals := 144 }) s m args below meth c H locs 0 0 (MQD lw_cs below (va_Qi (fun r (_ : Unit) => r = 1) (fun _ _ => True) (Acc n ad s.heap.size)) args s 19 111 (Acc n ad s.heap.size)) (F0 m 4 ls []) := by
  have hx := S.1
  have hb := S.2.1
  have hown := S.2.2.2.1
  have hts := S.2.2.2.2
  have hN := hI.1.1.1
  have hN6 := hI.1.1.2.1
  have hB := hI.1.1.2.2.1
  have hB4 := hI.1.1.2.2.2.1
  have hh := hI.1.1.2.2.2.2
  have hab := hI.1.ab
  have har := hts (.arrayClass .int) (by decide +kernel)
  have f7 := hts (.fieldLink RX4 7 "PumiceSledgeLaw$Sim" "stones" "[I") (by decide +kernel)
  have hi4 : ∀ w ∈ wsX40, w ∈ wsX4_isSame := by decide +kernel
  have f13 := hts (.fieldLink RX4 13 "PumiceSledgeLaw$Sim" "weight" "[I") (by decide +kernel)
  have in_L := hts (.initialized RL) (by decide +kernel)
  have stt_L_kind := hts (.static yL_kind) (by decide +kernel)
  refine lv_iconst (v := 0) hx hb dX4_isSame_4 (by decide) ?_
  refine lv_istore (lv' := [(4, .int 0), (0, .ref (ad1 28)), (1, .ref (ad1 0)), (2, .int 0), (3, .int 0)]) hx hb dX4_isSame_5 hl (by decide) rfl (fun ls hl => ?_)
  have L7 : ∀ (kq j : Nat) (ad2 : Nat → Nat) (H : Heap) (locs : List Loc) (ls : Array Slot), j + kq = 5 → WS D n ad2 (sW cy ad2 N B al al ex) (Acc n ad s.heap.size) s.heap H locs → lv_has ls 9 [(4, .int (nI j)), (0, .ref (ad2 28)), (1, .ref (ad2 0)), (2, .int (sumI (al 1) j)), (3, .int 0)] → W p l e ({ frames := 7, cells := 19, slots := 111, locals := 144 }) s m args below meth c H locs (0 + j) (0 + 4 * j) (MQD lw_cs below (va_Qi (fun r (_ : Unit) => r = 1) (fun _ _ => True) (Acc n ad s.heap.size)) args s 19 111 (Acc n ad s.heap.size)) (F0 m 7 ls []) := by
    intro kq
    induction kq with
    | zero =>
      intro j ad2 H locs ls hjk hW hl
      have hjN : j = 5 := by omega
      try rw [hjN] at hW
      try rw [hjN] at hl
      refine lv_iload hx hb dX4_isSame_7 (lv_at hl 0 rfl) ?_
      refine lv_iconst (v := 5) hx hb dX4_isSame_9 (by decide) ?_
      refine lv_icmp_ge (tgt := 116) hx hb dX4_isSame_10 (by decide) (fun _ => ?_) (fun h => absurd (by decide) h)
      refine W.widen (k := 5) (n := 20) (by omega) (by omega) ?_
      exact sm_B l hfl S hd0 hE hr hlk hI hh3 hn hW (lv_sub hl [1, 2, 3, 4] rfl)
    | succ kq ih =>
      intro j ad2 H locs ls hjk hW hl
      have hj : j < 5 := by omega
      refine lv_iload hx hb dX4_isSame_7 (lv_at hl 0 rfl) ?_
      refine lv_iconst (v := 5) hx hb dX4_isSame_9 (by decide) ?_
      refine lv_icmp_ge (tgt := 116) hx hb dX4_isSame_10 (by decide) (fun h => absurd h (nI_ge (b := 5) hj (by omega))) (fun _ => ?_)
      refine lv_iconst (v := 4) hx hb dX4_isSame_13 (by decide) ?_
      refine z_newI (M := 4) S hE (by omega) hW har rfl (by decide) (by dsimp only; omega) (by dsimp only; omega) dX4_isSame_14 (fun ad3 H had3 hW => ?_)
      replace hl : lv_has ls 9 [(4, .int (nI j)), (0, .ref (ad3 28)), (1, .ref (ad3 0)), (2, .int (sumI (al 1) j)), (3, .int 0)] := by
        rw [had3 28 (by omega), had3 0 (by omega)]; exact hl
      refine lv_dup hx hb dX4_isSame_16 rfl ?_
      refine lv_iconst (v := 0) hx hb dX4_isSame_17 (by decide) ?_
      refine lv_aload_n hx hb dX4_isSame_18 rfl (lv_at hl 1 rfl) ?_
      refine z_get (C := RX4) (T := TX4) (N := 9) (ci := 4) S hE hW hi4 rfl (by omega) sW_28 0 (by decide) rfl f7 (v := .ref (ad3 29)) rfl dX4_isSame_19 ?_
      refine lv_iload hx hb dX4_isSame_22 (lv_at hl 0 rfl) ?_
      refine z_ald S hE hW (by omega) sW_29 j rfl (by omega) (by decide) (v := al 1 j) rfl dX4_isSame_24 ?_
      refine z_ast (ce' := sW cy ad3 N B al al (cen ex n (.inl (cy 0, 4, .inl (upd (fun _ => 0) 0 (al 1 j)))))) S hE hW (by omega) ((sW_x (by omega)).trans cen_k) 0 rfl (by decide) (by decide) ((sW_x (by omega)).trans cen_k) (fun j h => sW_ext (cen_oo h)) dX4_isSame_25 (fun H locs hW => ?_)
      refine lv_dup hx hb dX4_isSame_26 rfl ?_
      refine lv_iconst (v := 1) hx hb dX4_isSame_27 (by decide) ?_
      refine lv_aload_n hx hb dX4_isSame_28 rfl (lv_at hl 1 rfl) ?_
      refine z_get (C := RX4) (T := TX4) (N := 9) (ci := 4) S hE hW hi4 rfl (by omega) sW_28 1 (by decide) rfl f13 (v := .ref (ad3 30)) rfl dX4_isSame_29 ?_
      refine lv_iload hx hb dX4_isSame_32 (lv_at hl 0 rfl) ?_
      refine z_ald S hE hW (by omega) sW_30 j rfl (by omega) (by decide) (v := al 2 j) rfl dX4_isSame_34 ?_
      refine z_ast (ce' := sW cy ad3 N B al al (cen ex n (.inl (cy 0, 4, .inl (upd (upd (fun _ => 0) 0 (al 1 j)) 1 (al 2 j)))))) S hE hW (by omega) ((sW_x (by omega)).trans cen_k) 1 rfl (by decide) (by decide) ((sW_x (by omega)).trans cen_k) (fun j h => sW_ext (cen_oo h)) dX4_isSame_35 (fun H locs hW => ?_)
      refine lv_dup hx hb dX4_isSame_36 rfl ?_
      refine lv_iconst (v := 2) hx hb dX4_isSame_37 (by decide) ?_
      refine lv_bipush (v := 10) hx hb dX4_isSame_38 (by decide) ?_
      refine lv_aload_n hx hb dX4_isSame_40 rfl (lv_at hl 1 rfl) ?_
      refine z_get (C := RX4) (T := TX4) (N := 9) (ci := 4) S hE hW hi4 rfl (by omega) sW_28 1 (by decide) rfl f13 (v := .ref (ad3 30)) rfl dX4_isSame_41 ?_
      refine lv_iload hx hb dX4_isSame_44 (lv_at hl 0 rfl) ?_
      refine z_ald S hE hW (by omega) sW_30 j rfl (by omega) (by decide) (v := al 2 j) rfl dX4_isSame_46 ?_
      refine lv_imul hx hb dX4_isSame_47 ?_
      refine z_pSN (As := [.int (10 * al 2 j)]) (rest := [.int 2, .ref (ad3 n), .ref (ad3 n)]) S hE hW (cL_kind_ok l (10 * al 2 j)) (⟨va_cnB 1 hts gX4_isSame_L_kind_n66 rfl rfl rfl (hE.1.2.1.at 7 rfl) in_L (by decide +kernel) ⟨Nat.le_of_ble_eq_true rfl, Nat.le_of_ble_eq_true rfl⟩, stt_L_kind, trivial⟩) rfl hl.1 rfl (Nat.le_of_ble_eq_true rfl) dX4_isSame_48 ⟨(by dsimp only; omega), (by dsimp only; omega)⟩ (fun H locs hW => ?_)
      refine z_ast (ce' := sW cy ad3 N B al al (cen ex n (.inl (cy 0, 4, .inl (upd (upd (upd (fun _ => 0) 0 (al 1 j)) 1 (al 2 j)) 2 (knd (10 * al 2 j))))))) S hE hW (by omega) ((sW_x (by omega)).trans cen_k) 2 rfl (by decide) (by decide) ((sW_x (by omega)).trans cen_k) (fun j h => sW_ext (cen_oo h)) dX4_isSame_51 (fun H locs hW => ?_)
      refine lv_dup hx hb dX4_isSame_52 rfl ?_
      refine lv_iconst (v := 3) hx hb dX4_isSame_53 (by decide) ?_
      refine lv_aload_n hx hb dX4_isSame_54 rfl (lv_at hl 1 rfl) ?_
      refine z_get (C := RX4) (T := TX4) (N := 9) (ci := 4) S hE hW hi4 rfl (by omega) sW_28 0 (by decide) rfl f7 (v := .ref (ad3 29)) rfl dX4_isSame_55 ?_
      refine lv_iload hx hb dX4_isSame_58 (lv_at hl 0 rfl) ?_
      refine z_ald S hE hW (by omega) sW_29 j rfl (by omega) (by decide) (v := al 1 j) rfl dX4_isSame_60 ?_
      refine lv_bipush (v := 10) hx hb dX4_isSame_61 (by decide) ?_
      refine lv_idiv hx hb dX4_isSame_63 (by decide) ?_
      refine z_ast (ce' := sW cy ad3 N B al al (cen ex n (.inl (cy 0, 4, .inl (upd (upd (upd (upd (fun _ => 0) 0 (al 1 j)) 1 (al 2 j)) 2 (knd (10 * al 2 j))) 3 (al 1 j / 10)))))) S hE hW (by omega) ((sW_x (by omega)).trans cen_k) 3 rfl (by decide) (by decide) ((sW_x (by omega)).trans cen_k) (fun j h => sW_ext (cen_oo h)) dX4_isSame_64 (fun H locs hW => ?_)
      refine lv_astore (lv' := [(5, .ref (ad3 n)), (4, .int (nI j)), (0, .ref (ad3 28)), (1, .ref (ad3 0)), (2, .int (sumI (al 1) j)), (3, .int 0)]) hx hb dX4_isSame_65 hl (by decide) rfl (fun ls hl => ?_)
      refine lv_iconst (v := 0) hx hb dX4_isSame_67 (by decide) ?_
      refine lv_istore (lv' := [(6, .int 0), (5, .ref (ad3 n)), (4, .int (nI j)), (0, .ref (ad3 28)), (1, .ref (ad3 0)), (2, .int (sumI (al 1) j)), (3, .int 0)]) hx hb dX4_isSame_68 hl (by decide) rfl (fun ls hl => ?_)
      have L70 : ∀ (kr q : Nat) (H : Heap) (locs : List Loc) (ls : Array Slot), q + kr = 4 → WS D (n + 1) ad3 (sW cy ad3 N B al al (cen ex n (.inl (cy 0, 4, .inl (upd (upd (upd (upd (fun _ => 0) 0 (al 1 j)) 1 (al 2 j)) 2 (knd (10 * al 2 j))) 3 (al 1 j / 10)))))) (Acc n ad s.heap.size) s.heap H locs → lv_has ls 9 [(6, .int (nI q)), (5, .ref (ad3 n)), (4, .int (nI j)), (0, .ref (ad3 28)), (1, .ref (ad3 0)), (2, .int (sumI (al 1) j)), (3, .int 0)] → W p l e ({ frames := 7, cells := 19, slots := 111, locals := 144 }) s m args below meth c H locs (((0 + j) + 1)) (((0 + 4 * j) + 4)) (MQD lw_cs below (va_Qi (fun r (_ : Unit) => r = 1) (fun _ _ => True) (Acc n ad s.heap.size)) args s 19 111 (Acc n ad s.heap.size)) (F0 m 70 ls []) := by
        intro kr
        induction kr with
        | zero =>
          intro q H locs ls hjkq hW hl
          have hjNq : q = 4 := by omega
          try rw [hjNq] at hW
          try rw [hjNq] at hl
          refine lv_iload hx hb dX4_isSame_70 (lv_at hl 0 rfl) ?_
          refine lv_iconst (v := 4) hx hb dX4_isSame_72 (by decide) ?_
          refine lv_icmp_ge (tgt := 100) hx hb dX4_isSame_73 (by decide) (fun _ => ?_) (fun h => absurd (by decide) h)
          refine lv_iload_n hx hb dX4_isSame_100 rfl (lv_at hl 5 rfl) ?_
          refine lv_aload_n hx hb dX4_isSame_101 rfl (lv_at hl 3 rfl) ?_
          refine z_get (C := RX4) (T := TX4) (N := 9) (ci := 4) S hE hW hi4 rfl (by omega) sW_28 0 (by decide) rfl f7 (v := .ref (ad3 29)) rfl dX4_isSame_102 ?_
          refine lv_iload hx hb dX4_isSame_105 (lv_at hl 2 rfl) ?_
          refine z_ald S hE hW (by omega) sW_29 j rfl (by omega) (by decide) (v := al 1 j) rfl dX4_isSame_107 ?_
          refine lv_iadd hx hb dX4_isSame_108 ?_
          refine lv_istore_n (lv' := [(2, .int (sumI (al 1) j + al 1 j)), (6, .int (nI 4)), (5, .ref (ad3 n)), (4, .int (nI j)), (0, .ref (ad3 28)), (1, .ref (ad3 0)), (3, .int 0)]) hx hb dX4_isSame_109 rfl hl (by decide) rfl (fun ls hl => ?_)
          refine lv_iinc (v := nI (j + 1)) (lv' := [(4, .int (nI (j + 1))), (2, .int (sumI (al 1) j + al 1 j)), (6, .int (nI 4)), (5, .ref (ad3 n)), (0, .ref (ad3 28)), (1, .ref (ad3 0)), (3, .int 0)]) hx hb dX4_isSame_110 hl (k := 3) rfl (nI_1 _) (by decide) rfl (fun ls hl => ?_)
          refine lv_goto (tgt := 7) hx hb dX4_isSame_113 (by decide) ?_
          replace hW := sm_drop hW
          refine W.widen (k := 0 + (j + 1)) (n := 0 + 4 * (j + 1)) (by omega) (by omega) ?_
          exact ih (j + 1) ad3 H locs ls (by omega) hW (lv_sub hl [0, 4, 5, 1, 6] rfl)
        | succ kr ihq =>
          intro q H locs ls hjkq hW hl
          have hjq : q < 4 := by omega
          refine lv_iload hx hb dX4_isSame_70 (lv_at hl 0 rfl) ?_
          refine lv_iconst (v := 4) hx hb dX4_isSame_72 (by decide) ?_
          refine lv_icmp_ge (tgt := 100) hx hb dX4_isSame_73 (by decide) (fun h => absurd h (nI_ge (b := 4) hjq (by decide))) (fun _ => ?_)
          refine lv_aload_n hx hb dX4_isSame_76 rfl (lv_at hl 4 rfl) ?_
          refine lv_iload hx hb dX4_isSame_77 (lv_at hl 2 rfl) ?_
          refine lv_iload hx hb dX4_isSame_79 (lv_at hl 0 rfl) ?_
          refine z_cVi (As := [.int (nI j), .int (nI q)]) (rest := []) (k := 0) S hE hW (cX3_layer0_ok l D (n + 1) ad3 cy sa H.size (by omega) al (exS cy ad3 N B al (cen ex n (.inl (cy 0, 4, .inl (upd (upd (upd (upd (fun _ => 0) 0 (al 1 j)) 1 (al 2 j)) 2 (knd (10 * al 2 j))) 3 (al 1 j / 10)))))) j (by omega) q (by omega)) (cwV 2 hts gX4_isSame_X3_layer rfl rfl rfl (by decide +kernel) ⟨Nat.le_of_ble_eq_true rfl, Nat.le_of_ble_eq_true rfl⟩) (by omega) cC_0 rfl rfl rfl hl.1 rfl (Nat.le_of_ble_eq_true rfl) dX4_isSame_81 ⟨(by dsimp only; omega), (by dsimp only; omega)⟩ (fun r _ H locs hp hW => ?_)
          subst hp
          refine lv_aload hx hb dX4_isSame_84 (lv_at hl 1 rfl) ?_
          refine lv_iload hx hb dX4_isSame_86 (lv_at hl 0 rfl) ?_
          refine z_ald S hE hW (by omega) ((sW_x (by omega)).trans cen_k) q rfl (by omega) (by decide) (v := v_layer al (nI j) (nI q)) ((lay_eq (by omega) (by omega))) dX4_isSame_88 ?_
          refine lv_icmp_eq (tgt := 94) hx hb dX4_isSame_89 (by decide) (fun _ => ?_) (fun h => absurd rfl h)
          refine lv_iinc (v := nI (q + 1)) (lv' := [(6, .int (nI (q + 1))), (5, .ref (ad3 n)), (4, .int (nI j)), (0, .ref (ad3 28)), (1, .ref (ad3 0)), (2, .int (sumI (al 1) j)), (3, .int 0)]) hx hb dX4_isSame_94 hl (k := 0) rfl (nI_1 _) (by decide) rfl (fun ls hl => ?_)
          refine lv_goto (tgt := 70) hx hb dX4_isSame_97 (by decide) ?_
          exact ihq (q + 1) H locs ls (by omega) hW (lv_sub hl [0, 1, 2, 3, 4, 5, 6] rfl)
      exact L70 (4) 0 _ _ ls (by omega) hW (lv_sub hl [0, 1, 2, 3, 4, 5, 6] rfl)
  exact L7 (5) 0 ad1 _ _ ls (by omega) hW (lv_sub hl [0, 1, 2, 3, 4] rfl)

set_option maxHeartbeats 4000000 in
set_option maxRecDepth 100000 in
theorem cX4_isSame_ok (l : Launch) (D : va_G) (n : Nat) (ad cy sa : Nat → Nat) (sz N B h : Nat) (hn : 35 + 2 * N + B ≤ n) (al : Nat → Nat → Int32) (ex : Nat → va_E) (hI : InvT al N B h) (hh3 : h < 2 ^ 20) (hfl : l.stackTraces = false) : MetD lw_cs l yX4_isSame wsX4_isSame ({ frames := 7, cells := 19, slots := 111, locals := 144 }) (PW D n ad cy sa sz (sW cy ad N B al al ex) [.ref (ad 28), .ref (ad 0)]) (va_Qi (fun r (_ : Unit) => r = 1) (fun _ _ => True) (Acc n ad sz)) 19 111 (Acc n ad sz) := by
  refine zs_metD (cc := cX4_isSame) (maxL := 9) (ret := (some .boolean)) (own := RX4) (by decide) rfl rfl (Nat.le_of_ble_eq_true rfl) ?_
  intro p e s m args below meth c ls S hd0 hE hW hr hlk hsz hav hl
  subst hsz
  have hx := S.1
  have hb := S.2.1
  have hl : lv_has ls 9 [(0, .ref (ad 28)), (1, .ref (ad 0))] := hl
  refine lv_iconst (v := 0) hx hb dX4_isSame_0 (by decide) ?_
  refine lv_istore_n (lv' := [(2, .int 0), (0, .ref (ad 28)), (1, .ref (ad 0))]) hx hb dX4_isSame_1 rfl hl (by decide) rfl (fun ls hl => ?_)
  refine lv_iconst (v := 0) hx hb dX4_isSame_2 (by decide) ?_
  refine lv_istore_n (lv' := [(3, .int 0), (2, .int 0), (0, .ref (ad 28)), (1, .ref (ad 0))]) hx hb dX4_isSame_3 rfl hl (by decide) rfl (fun ls hl => ?_)
  exact sm_A l hfl S hd0 hE hr hlk hI hh3 hn hW (lv_sub hl [2, 3, 1, 0] rfl)
