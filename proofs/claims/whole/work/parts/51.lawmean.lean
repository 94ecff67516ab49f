/-! the law: the mean, the digest -/
theorem nan_val {a : UInt64} (h : isNaN64 a = true) : FP.Core.val64 a = .nan := by
  have h1 := isNaN64_iff.mp h
  rw [show (0x7fffffffffffffff : Nat) = 2 ^ 63 - 1 from rfl, Nat.and_two_pow_sub_one_eq_mod] at h1
  show FP.Core.decode FP.Core.b64 a.toNat = .nan
  unfold FP.Core.decode
  rw [if_pos, if_neg]
  · show ¬ a.toNat % 2 ^ 52 = 0
    omega
  · show a.toNat / 2 ^ 52 % 2 ^ 11 = 2 ^ 11 - 1
    omega
theorem cmp_nan {a b : UInt64} (h : isNaN64 a = true) : ¬ Op.cmpValue (FP.dcmp a b) .l = 0 := by
  rw [show FP.dcmp a b = none from (FP.Core.dcmp_none a b).mpr (Or.inl (nan_val h))]
  decide
/-- two means of one state are told alike -/
theorem mn_cmp {al : Nat → Nat → Int32} {N : Nat} {x y : UInt64} (h1 : mnP al N x) (h2 : mnP al N y) : Op.cmpValue (FP.dcmp x y) .l = 0 ∨ (¬ Op.cmpValue (FP.dcmp x x) .l = 0 ∧ ¬ Op.cmpValue (FP.dcmp y y) .l = 0) := by
  unfold mnP at h1 h2
  by_cases h : mnA al N = 0
  · rw [if_pos h] at h1 h2
    subst h1
    subst h2
    exact Or.inl (by decide +kernel)
  · rw [if_neg h] at h1 h2
    generalize FP.ddiv (FP.i2d (mnW al N)) (FP.i2d (mnA al N)) = v at h1 h2
    have key : ∀ z : UInt64, alike64 z v = true → z = v ∨ isNaN64 z = true := by
      intro z hz
      unfold alike64 at hz
      rcases (Bool.or_eq_true _ _).mp hz with q | q
      · exact Or.inl (of_decide_eq_true q)
      · exact Or.inr ((Bool.and_eq_true _ _).mp q).1
    have kn : ∀ z : UInt64, alike64 z v = true → z ≠ v → isNaN64 v = true := by
      intro z hz hne
      unfold alike64 at hz
      rcases (Bool.or_eq_true _ _).mp hz with q | q
      · exact absurd (of_decide_eq_true q) hne
      · exact ((Bool.and_eq_true _ _).mp q).2
    by_cases e1 : x = v
    · by_cases e2 : y = v
      · subst e1
        subst e2
        by_cases q : Op.cmpValue (FP.dcmp y y) .l = 0
        · exact Or.inl q
        · exact Or.inr ⟨q, q⟩
      · have hv := kn y h2 e2
        rcases key y h2 with q | q
        · exact absurd q e2
        · exact Or.inr ⟨by rw [e1]; exact cmp_nan hv, cmp_nan q⟩
    · have hv := kn x h1 e1
      rcases key x h1 with q | q
      · exact absurd q e1
      · rcases key y h2 with q2 | q2
        · exact Or.inr ⟨cmp_nan q, by rw [q2]; exact cmp_nan hv⟩
        · exact Or.inr ⟨cmp_nan q, cmp_nan q2⟩
section LMD
variable {p : Program} {l : Launch} {e : Env} {R : Room} {s : State} {m : MethodId} {args : Array Value} {below : List Frame} {meth : Method} {c : Code} {H : Heap} {locs : List Loc} {cells slots : Nat} {Q : State → Prop}
variable {cc : ByteArray} {nL : Nat} {Ts : List Cond} {own : String} {pc : Nat} {ls : Array Slot} {rest : List Value} {D : va_G} {n : Nat} {ad cy sa : Nat → Nat} {ce ce' : Nat → va_E} {A : Nat → Prop}
theorem z_cVd {d0 : Drawn} (hd0 : s.drawn.sameBut d0 lw_cs) {St : Type} {post : UInt64 → St → Prop} {ceF : St → Nat → va_E} {C : String} {y : MethodName} {ws : List Cond} {rm : Room} {mc ms N index maxL k ci : Nat} {fs : List Value} {q : vw_C} {bytes : ByteArray} {ret : Option FieldType} {st0 As : List Value} (S : CallFix p m c cc nL (s.setDrawn d0) args Ts own) (hE : ZEnv D cy sa A (s.setDrawn d0)) (hW : WS D n ad ce A s.heap H locs) (hM : MetD lw_cs l y ws rm (PW D n ad cy sa H.size ce (.ref (ad k) :: As)) (QWd D n ad H.size post ceF) mc ms (Acc n ad H.size)) (cw : CallW R (s.setDrawn d0) args own C index y bytes maxL ret ws rm mc ms N) (hk : k < n) (he : ce k = .inr (ci, fs)) (hc : vwCl[ci]? = some q) (hq : q.1 = C) (hn : As.length = N) (hz : ls.size = nL) (hst : st0 = As.reverse ++ .ref (ad k) :: rest) (hr : (rest.map fun v => v.category).sum ≤ 8) (hdg : decode cc pc = .ok (.invokevirtual index, 3)) (hf : cells + mc ≤ R.cells ∧ slots + ms ≤ R.slots)
    (kk : ∀ (r : UInt64) (u : St) (H1 : Heap) (locs1 : List Loc) (d1 : Drawn), s.drawn.sameBut d1 lw_cs → post r u → WS D n ad (ceF u) A s.heap H1 locs1 → W p l e R (s.setDrawn d1) m args below meth c H1 locs1 (cells + mc) (slots + ms) Q (F0 m (pc + 3) ls (.double r :: rest))) : W p l e R (s.setDrawn d0) m args below meth c H locs cells slots Q (F0 m pc ls st0) :=
  va_calldD hd0 (va_runV_D (As := As) (rest := rest) S hM cw ⟨PW_blind, by rw [← hq]; exact z_recv (s := s.setDrawn d0) hE hW hk he hc, PW_at (s := s.setDrawn d0) hE hW⟩ rfl hn hz hst (lv_room hr) hdg hf) hW.2.2 (fun q _ h => WS.acc (H0 := s.heap) hE.2 hW q h) (WS.acc (H0 := s.heap) hE.2 hW) (fun r u t H1 locs1 ht hvm hp hB hz1 hk1 hS1 d1 hd1 => kk r u H1 locs1 d1 hd1 hp ⟨by rw [← ht]; exact hB, wL_D hW.2.1, hS1⟩)
end LMD
set_option maxHeartbeats 4000000 in
set_option maxRecDepth 100000 in
theorem lc_digest {p : Program} (l : Launch) {e : Env} {s : State} {m : MethodId} {args : Array Value} {below : List Frame} {meth : Method} {c : Code} {H : Heap} {locs : List Loc} {cells slots : Nat} {Q : State → Prop} {ls : Array Slot} {D : va_G} {ad cy sa : Nat → Nat} {A : Nat → Prop} {b L i N B h : Nat} {xs : Nat → Int32} {al : Nat → Nat → Int32} {th : Int32} {f : Nat → Int64} (hfl : l.stackTraces = false) (S : CallFix p m c cL_law 9 s args wsL_law RL) (hE : ZEnv D cy sa A s) (hX : va_X b L xs s s.heap) (hbl : b < s.heap.size) (hbA : ¬ A b) (hL2 : L ≤ 2048) (hi : i + 4 ≤ L) (I : Inv al N B h) (hh2 : h < 2 ^ 19) (hcl : cells + 8 ≤ 601024) (hsl : slots + 100 ≤ 7293034) (hW : WS D 36 ad (lwC cy ad al th f) A s.heap H locs) (hl : lv_has ls 9 [(4, .int (nI i)), (3, .ref (ad 35)), (2, .ref (ad 28)), (1, .ref (ad 0)), (0, .ref b)]) (kk : ∀ (al2 : Nat → Nat → Int32) (th2 : Int32) (f2 : Nat → Int64) (N2 B2 h2 : Nat) (H : Heap) (locs : List Loc) (ls : Array Slot), Inv al2 N2 B2 h2 → h2 ≤ h + 60 → WS D 36 ad (lwC cy ad al2 th2 f2) A s.heap H locs → lv_has ls 9 [(4, .int (nI i)), (3, .ref (ad 35)), (2, .ref (ad 28)), (1, .ref (ad 0)), (0, .ref b)] → W p l e room_1 s m args below meth c H locs (cells + 8) (slots + 100) Q (F0 m 1343 ls [])) : W p l e room_1 s m args below meth c H locs cells slots Q (F0 m 1329 ls []) := by
  have hx := S.1
  have hb := S.2.1
  have hown := S.2.2.2.1
  have hts := S.2.2.2.2
  have hN := I.1.1
  have hN6 := I.1.2.1
  have hB := I.1.2.2.1
  have hB4 := I.1.2.2.2.1
  have hh := I.1.2.2.2.2
  replace hW := hW.to lw_sw.symm
  refine lv_aload_n hx hb dL_law_1329 rfl (lv_at hl 3 rfl) ?_
  refine z_cVl (As := []) (rest := []) (k := 0) S hE hW (cX3_digest_ok l D 36 ad cy sa H.size (by decide) al _ N hN hN6 h hh (by omega) I.ab B hB hB4) (cwV 0 hts gL_law_X3_digest rfl rfl rfl (by decide +kernel) ⟨Nat.le_of_ble_eq_true rfl, Nat.le_of_ble_eq_true rfl⟩) (by decide) cC_0 rfl rfl rfl hl.1 rfl (Nat.le_of_ble_eq_true rfl) dL_law_1330 ⟨(by show cells + 0 ≤ 601024; omega), (by show slots + 0 ≤ 7293034; omega)⟩ (fun r _ H locs hp hW => ?_)
  subst hp
  replace hW := hW.to lw_sw
  refine lv_aload_n hx hb dL_law_1333 rfl (lv_at hl 2 rfl) ?_
  refine z_cVl (As := []) (rest := [.long (dig al)]) (k := 28) S hE hW (cX4_digest_ok l D 36 ad cy sa H.size (by decide) al th _ N hN hN6 h hh (by omega) I.rowO B hB hB4) (cwV 0 hts gL_law_X4_digest rfl rfl rfl (by decide +kernel) ⟨Nat.le_of_ble_eq_true rfl, Nat.le_of_ble_eq_true rfl⟩) (by decide) cM_0 rfl rfl rfl hl.1 rfl (Nat.le_of_ble_eq_true rfl) dL_law_1334 ⟨(by show cells + 0 + 0 ≤ 601024; omega), (by show slots + 0 + 0 ≤ 7293034; omega)⟩ (fun r _ H locs hp hW => ?_)
  subst hp
  refine W.lcmp hx hb dL_law_1337 ?_
  refine z_top2 (y := 0) z_cmp0 ?_
  refine lv_if_eq (tgt := 1343) hx hb dL_law_1338 (by decide) (fun _ => ?_) (fun h => absurd rfl h)
  refine W.widen (k := cells + 8) (n := slots + 100) (by omega) (by omega) ?_
  exact kk al 0 f N B h H locs ls I (by omega) hW hl
set_option maxHeartbeats 4000000 in
set_option maxRecDepth 100000 in
theorem lc_mean {p : Program} (l : Launch) {e : Env} {s : State} {m : MethodId} {args : Array Value} {below : List Frame} {meth : Method} {c : Code} {H : Heap} {locs : List Loc} {cells slots : Nat} {Q : State → Prop} {ls : Array Slot} {D : va_G} {ad cy sa : Nat → Nat} {A : Nat → Prop} {b L i N B h : Nat} {xs : Nat → Int32} {al : Nat → Nat → Int32} {th : Int32} {f : Nat → Int64} (hfl : l.stackTraces = false) (S : CallFix p m c cL_law 9 s args wsL_law RL) (hE : ZEnv D cy sa A s) (hX : va_X b L xs s s.heap) (hbl : b < s.heap.size) (hbA : ¬ A b) (hL2 : L ≤ 2048) (hi : i + 4 ≤ L) (I : Inv al N B h) (hh2 : h < 2 ^ 19) (hcl : cells + 8 ≤ 601024) (hsl : slots + 100 ≤ 7293034) (hW : WS D 36 ad (lwC cy ad al th f) A s.heap H locs) (hl : lv_has ls 9 [(4, .int (nI i)), (3, .ref (ad 35)), (2, .ref (ad 28)), (1, .ref (ad 0)), (0, .ref b)]) (kk : ∀ (al2 : Nat → Nat → Int32) (th2 : Int32) (f2 : Nat → Int64) (N2 B2 h2 : Nat) (H : Heap) (locs : List Loc) (ls : Array Slot) (d2 : Drawn), s.drawn.sameBut d2 lw_cs → Inv al2 N2 B2 h2 → h2 ≤ h + 60 → WS D 36 ad (lwC cy ad al2 th2 f2) A s.heap H locs → lv_has ls 9 [(4, .int (nI i)), (3, .ref (ad 35)), (2, .ref (ad 28)), (1, .ref (ad 0)), (0, .ref b)] → W p l e room_1 (s.setDrawn d2) m args below meth c H locs (cells + 8) (slots + 100) Q (F0 m 1343 ls [])) : W p l e room_1 s m args below meth c H locs cells slots Q (F0 m 1288 ls []) := by
  have hx := S.1
  have hb := S.2.1
  have hown := S.2.2.2.1
  have hts := S.2.2.2.2
  have hN := I.1.1
  have hN6 := I.1.2.1
  have hB := I.1.2.2.1
  have hB4 := I.1.2.2.2.1
  have hh := I.1.2.2.2.2
  have hd0 := Drawn.sameBut.refl s.drawn lw_cs
  refine W.base ?_
  replace hW := hW.to lw_sw.symm
  refine lv_aload_n hx hb dL_law_1288 rfl (lv_at hl 3 rfl) ?_
  refine z_cVd hd0 (As := []) (rest := []) (k := 0) S hE hW (cX3_mean_ok l D 36 ad cy sa H.size (by decide) al _ N hN hN6 I.ab) (cwV 0 hts gL_law_X3_mean rfl rfl rfl (by decide +kernel) ⟨Nat.le_of_ble_eq_true rfl, Nat.le_of_ble_eq_true rfl⟩) (by decide) cC_0 rfl rfl rfl hl.1 rfl (Nat.le_of_ble_eq_true rfl) dL_law_1289 ⟨(by show cells + 0 ≤ 601024; omega), (by show slots + 0 ≤ 7293034; omega)⟩ (fun r1 _ H locs d1 hd1 hp1 hW => ?_)
  replace hW := hW.to lw_sw
  refine lv_dstore (lv' := [(5, .double r1), (4, .int (nI i)), (3, .ref (ad 35)), (2, .ref (ad 28)), (1, .ref (ad 0)), (0, .ref b)]) hx hb dL_law_1292 hl (by decide) rfl (fun ls hl => ?_)
  refine lv_aload_n hx hb dL_law_1294 rfl (lv_at hl 3 rfl) ?_
  refine z_cVd hd1 (As := []) (rest := []) (k := 28) ⟨S.1, S.2.1, S.2.2.1, S.2.2.2.1, dr_words hts d1⟩ (hE.drawn d1) hW (cX4_mean_ok l D 36 ad cy sa H.size (by decide) al th _ N hN hN6 I.rowO) (cwV 0 (dr_words hts d1) gL_law_X4_mean rfl rfl rfl (by decide +kernel) ⟨Nat.le_of_ble_eq_true rfl, Nat.le_of_ble_eq_true rfl⟩) (by decide) cM_0 rfl rfl rfl hl.1 rfl (Nat.le_of_ble_eq_true rfl) dL_law_1295 ⟨(by show cells + 0 + 0 ≤ 601024; omega), (by show slots + 0 + 0 ≤ 7293034; omega)⟩ (fun r2 _ H locs d2 hd2 hp2 hW => ?_)
  refine lv_dstore (lv' := [(7, .double r2), (5, .double r1), (4, .int (nI i)), (3, .ref (ad 35)), (2, .ref (ad 28)), (1, .ref (ad 0)), (0, .ref b)]) hx hb dL_law_1298 hl (by decide) rfl (fun ls hl => ?_)
  have hfin : W p l e room_1 (s.setDrawn d2) m args below meth c H locs (cells + 0 + 0) (slots + 0 + 0) Q (F0 m 1326 ls []) := by
    refine lv_goto (tgt := 1343) hx hb dL_law_1326 (by decide) ?_
    refine W.widen (k := cells + 8) (n := slots + 100) (by omega) (by omega) ?_
    exact kk al 0 f N B h H locs ls d2 hd2 I (by omega) hW (lv_sub hl [2, 3, 4, 5, 6] rfl)
  refine lv_dload hx hb dL_law_1300 (lv_at hl 1 rfl) ?_
  refine lv_dload hx hb dL_law_1302 (lv_at hl 0 rfl) ?_
  refine lv_dcmp hx hb dL_law_1304 ?_
  refine lv_if_eq (tgt := 1326) hx hb dL_law_1305 (by decide) (fun _ => hfin) (fun h0 => ?_)
  obtain ⟨hp, hq⟩ := (mn_cmp hp1 hp2).resolve_left h0
  refine lv_dload hx hb dL_law_1308 (lv_at hl 1 rfl) ?_
  refine lv_dload hx hb dL_law_1310 (lv_at hl 1 rfl) ?_
  refine lv_dcmp hx hb dL_law_1312 ?_
  refine lv_if_eq (tgt := 1324) hx hb dL_law_1313 (by decide) (fun h0 => absurd h0 hp) (fun _ => ?_)
  refine lv_dload hx hb dL_law_1316 (lv_at hl 0 rfl) ?_
  refine lv_dload hx hb dL_law_1318 (lv_at hl 0 rfl) ?_
  refine lv_dcmp hx hb dL_law_1320 ?_
  exact lv_if_ne (tgt := 1326) hx hb dL_law_1321 (by decide) (fun _ => hfin) (fun h0 => absurd h0 hq)
