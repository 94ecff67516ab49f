/-! the mean -/
def mnA (al : Nat → Nat → Int32) (N : Nat) : Int32 := sumI (fun i => al (10 + i) 2) N
def mnW (al : Nat → Nat → Int32) (N : Nat) : Int32 := sumI (fun i => sumI (al (17 + i)) (ix (al (10 + i) 2))) N
/-- the mean: a number, or a NaN where that is one -/
def mnP (al : Nat → Nat → Int32) (N : Nat) (r : UInt64) : Prop := if mnA al N = 0 then r = FP.dconst0 else alike64 r (FP.ddiv (FP.i2d (mnW al N)) (FP.i2d (mnA al N))) = true
abbrev QMn (D : va_G) (n : Nat) (ad : Nat → Nat) (sz : Nat) (al : Nat → Nat → Int32) (N : Nat) (ce : Nat → va_E) : Array Value → State → Outcome → State → Prop := QWd D n ad sz (fun r (_ : Unit) => mnP al N r) (fun _ => ce)
section ZMD
variable {l : Launch} {y : MethodName} {ws ws' : List Cond} {rm : Room} {Qc : Array Value → State → Outcome → State → Prop} {mc ms : Nat} {free : Addr → Prop} {cc : ByteArray} {maxL : Nat} {ret : Option FieldType}
variable {D : va_G} {cy sa : Nat → Nat} {n : Nat} {ad : Nat → Nat} {ce : Nat → va_E} {sz : Nat} {av : List Value} {own : String}
theorem zs_metD (hy : plainName y.cls = true) (hw : ws = Cond.code y cc maxL ret :: ws') (ho : y.cls = own) (hav : (lg_sl av).length ≤ maxL)
    (body : ∀ p e s m args below meth c ls, CallFix p m c cc maxL s args ws own → s.drawn.sameBut s.drawn lw_cs → ZEnv D cy sa (Acc n ad s.heap.size) s → WS D n ad ce (Acc n ad s.heap.size) s.heap s.heap [] → meth.sig.returnType = ret → meth.locks = false → s.heap.size = sz → args = av.toArray → lv_has ls maxL (lv_args 0 av) → W p l e rm s m args below meth c s.heap [] 0 0 (MQD lw_cs below Qc args s mc ms free) (F0 m 0 ls [])) : MetD lw_cs l y ws rm (PW D n ad cy sa sz ce av) Qc mc ms free := by
  refine MetD.ofW (cc := cc) (maxL := maxL) (ret := ret) hy hw ?_
  intro p e s m args below meth c s₁ B hml hv hd0
  obtain ⟨rfl, hsz, hP, hD, hE⟩ := hv
  have hts := atoms_spec (ws := ws) B.pre
  have hown : s.vm.findClass own = some m.cls := by
    rw [← ho]
    exact findClass_of_methodNamed B.named
  subst hsz
  rw [lg_entry_eq]
  have hD2 : va_D (Acc n ad s.heap.size) (wL n ad ce) := ⟨hD.1, fun k q hk => by
    obtain ⟨h1, rfl⟩ := wL_inv hk
    exact Or.inl ⟨k, h1, rfl⟩⟩
  exact body p e s m _ below meth c _ ⟨B.exec, B.bytes, hml, hown, hts⟩ hd0 hE ⟨hP, hD2, va_S.rf⟩ B.returns B.notSynchronized rfl rfl (lv_entry av hav)
end ZMD
section ZMR
variable {p : Program} {l : Launch} {e : Env} {R : Room} {s : State} {m : MethodId} {args : Array Value} {below : List Frame} {meth : Method} {c : Code} {H : Heap} {locs : List Loc} {cells slots : Nat} {Q : State → Prop}
variable {cc : ByteArray} {nL : Nat} {Ts : List Cond} {own : String} {pc : Nat} {ls : Array Slot} {rest : List Value} {D : va_G} {n : Nat} {ad cy sa : Nat → Nat} {ce ce' : Nat → va_E} {A : Nat → Prop}
theorem ze_d {d1 : Drawn} {al : Nat → Nat → Int32} {N mc ms : Nat} {v : UInt64} (S : CallFix p m c cc nL s args Ts own) (hW : WS D n ad ce (Acc n ad s.heap.size) s.heap H locs) (hr : meth.sig.returnType = some .double) (hlk : meth.locks = false) (hd1 : s.drawn.sameBut d1 lw_cs) (he : ce = ce') (hp : mnP al N v) (h1 : cells ≤ mc) (h2 : slots ≤ ms) (hdg : decode cc pc = .ok (.dreturn, 1)) :
    W p l e R (s.setDrawn d1) m args below meth c H locs cells slots (MQD lw_cs below (QMn D n ad s.heap.size al N ce') args s mc ms (Acc n ad s.heap.size)) (F0 m pc ls [.double v]) := by
  subst he
  refine W.endD hd1 ?_
  refine W.widen h1 h2 ?_
  exact W.dret S.1 S.2.1 hr (fun t ht _ => ⟨⟨v, (), rfl, hp, by show va_P D vwCl _ t.heap; rw [ht]; exact hW.1⟩, hW.2.2.F ht⟩) hW.2.2.2.2 hdg hlk
end ZMR
set_option maxHeartbeats 4000000 in
set_option maxRecDepth 100000 in
theorem cX3_mean_ok (l : Launch) (D : va_G) (n : Nat) (ad cy sa : Nat → Nat) (sz : Nat) (hn : 28 ≤ n) (al : Nat → Nat → Int32) (ex : Nat → va_E) (N : Nat) (hN : al 0 4 = nI N) (hN6 : N ≤ 6) (hab : abOK al) : MetD lw_cs l yX3_mean wsX3_mean ({ frames := 1, cells := 0, slots := 0, locals := 22 }) (PW D n ad cy sa sz (cC cy ad al ex) [.ref (ad 0)]) (QMn D n ad sz al N (cC cy ad al ex)) 0 0 (Acc n ad sz) := by
  refine zs_metD (cc := cX3_mean) (maxL := 4) (ret := some .double) (own := RX3) (by decide) rfl rfl (Nat.le_of_ble_eq_true rfl) ?_
  intro p e s m args below meth c ls S hd0 hE hW hr hlk hsz hav hl
  subst hsz
  have hx := S.1
  have hb := S.2.1
  have hown := S.2.2.2.1
  have hts := S.2.2.2.2
  have hl : lv_has ls 4 [(0, .ref (ad 0))] := hl
  have f75 := hts (.fieldLink RX3 75 "PumiceSledge" "sledgeCount" "I") (by decide +kernel)
  have hi3 : ∀ w ∈ wsX30, w ∈ wsX3_mean := by decide +kernel
  have f21 := hts (.fieldLink RX3 21 "PumiceSledge" "sledges" "[LPumiceSledge$Sledge;") (by decide +kernel)
  refine lv_aload_n hx hb dX3_mean_0 rfl (lv_at hl 0 rfl) ?_
  refine z_cVi (As := []) (rest := []) (k := 0) S hE hW (cX3_sacksAboard_ok l D n ad cy sa s.heap.size hn al ex N hN hN6) (cwV 0 hts gX3_mean_X3_sacksAboard rfl rfl rfl (by decide +kernel) ⟨Nat.le_of_ble_eq_true rfl, Nat.le_of_ble_eq_true rfl⟩) (Nat.lt_of_lt_of_le (by decide) hn) cC_0 rfl rfl rfl hl.1 rfl (Nat.le_of_ble_eq_true rfl) dX3_mean_1 ⟨Nat.le_of_ble_eq_true rfl, Nat.le_of_ble_eq_true rfl⟩ (fun r _ H locs hp hW => ?_)
  subst hp
  refine lv_istore_n (lv' := [(1, .int (sumI (fun i => al (10 + i) 2) N)), (0, .ref (ad 0))]) hx hb dX3_mean_4 rfl hl (by decide) rfl (fun ls hl => ?_)
  refine lv_iload_n hx hb dX3_mean_5 rfl (lv_at hl 0 rfl) ?_
  refine lv_if_ne (tgt := 11) hx hb dX3_mean_6 (by decide) (fun c6 => ?_) (fun c6 => ?_)
  · have hA0 : ¬ mnA al N = 0 := c6
    refine lv_iconst (v := 0) hx hb dX3_mean_11 (by decide) ?_
    refine lv_istore_n (lv' := [(2, .int 0), (1, .int (sumI (fun i => al (10 + i) 2) N)), (0, .ref (ad 0))]) hx hb dX3_mean_12 rfl hl (by decide) rfl (fun ls hl => ?_)
    refine lv_iconst (v := 0) hx hb dX3_mean_13 (by decide) ?_
    refine lv_istore_n (lv' := [(3, .int 0), (2, .int 0), (1, .int (sumI (fun i => al (10 + i) 2) N)), (0, .ref (ad 0))]) hx hb dX3_mean_14 rfl hl (by decide) rfl (fun ls hl => ?_)
    have L15 : ∀ (kq j : Nat) (H : Heap) (locs : List Loc) (ls : Array Slot), j + kq = N → WS D n ad (cC cy ad al ex) (Acc n ad s.heap.size) s.heap H locs → lv_has ls 4 [(0, .ref (ad 0)), (1, .int (sumI (fun i => al (10 + i) 2) N)), (2, .int (mnW al j)), (3, .int (nI j))] → W p l e { frames := 1, cells := 0, slots := 0, locals := 22 } s m args below meth c H locs 0 0 (MQD lw_cs below (QMn D n ad s.heap.size al N (cC cy ad al ex)) args s 0 0 (Acc n ad s.heap.size)) (F0 m 15 ls []) := by
      intro kq
      induction kq with
      | zero =>
        intro j H locs ls hjk hW hl
        have hjN : j = N := by omega
        try rw [hjN] at hW
        try rw [hjN] at hl
        refine lv_iload_n hx hb dX3_mean_15 rfl (lv_at hl 3 rfl) ?_
        refine lv_aload_n hx hb dX3_mean_16 rfl (lv_at hl 0 rfl) ?_
        refine z_get (C := RX3) (T := TX3) (N := 12) (ci := 3) S hE hW hi3 rfl (Nat.lt_of_lt_of_le (by decide) hn) cC_0 4 (by decide) rfl f75 (v := .int (nI N)) (congrArg (fun z => some (Value.int z)) (hN)) dX3_mean_17 ?_
        refine lv_icmp_ge (tgt := 41) hx hb dX3_mean_20 (by decide) (fun _ => ?_) (fun h => absurd (nI_le (Nat.le_refl N) (by omega)) h)
        refine lv_iload_n hx hb dX3_mean_41 rfl (lv_at hl 2 rfl) ?_
        refine lv_i2d hx hb dX3_mean_42 ?_
        refine lv_iload_n hx hb dX3_mean_43 rfl (lv_at hl 1 rfl) ?_
        refine lv_i2d hx hb dX3_mean_44 ?_
        refine W.base ?_
        refine lv_ddiv_any hd0 lw_bits hx hb dX3_mean_45 (fun r d1 hal hd1 => ?_)
        exact ze_d S hW hr hlk hd1 rfl (by unfold mnP; rw [if_neg hA0]; exact hal) (Nat.le_of_ble_eq_true rfl) (Nat.le_of_ble_eq_true rfl) dX3_mean_46
      | succ kq ih =>
        intro j H locs ls hjk hW hl
        have hj : j < N := by omega
        obtain ⟨a, ha, ha8⟩ := hab j (by omega)
        refine lv_iload_n hx hb dX3_mean_15 rfl (lv_at hl 3 rfl) ?_
        refine lv_aload_n hx hb dX3_mean_16 rfl (lv_at hl 0 rfl) ?_
        refine z_get (C := RX3) (T := TX3) (N := 12) (ci := 3) S hE hW hi3 rfl (Nat.lt_of_lt_of_le (by decide) hn) cC_0 4 (by decide) rfl f75 (v := .int (nI N)) (congrArg (fun z => some (Value.int z)) (hN)) dX3_mean_17 ?_
        refine lv_icmp_ge (tgt := 41) hx hb dX3_mean_20 (by decide) (fun h => absurd h (nI_ge hj (by omega))) (fun _ => ?_)
        refine lv_iload_n hx hb dX3_mean_23 rfl (lv_at hl 2 rfl) ?_
        refine lv_aload_n hx hb dX3_mean_24 rfl (lv_at hl 0 rfl) ?_
        refine z_get (C := RX3) (T := TX3) (N := 12) (ci := 3) S hE hW hi3 rfl (Nat.lt_of_lt_of_le (by decide) hn) cC_0 3 (by decide) rfl f21 (v := .ref (ad 4)) rfl dX3_mean_25 ?_
        refine lv_iload_n hx hb dX3_mean_28 rfl (lv_at hl 3 rfl) ?_
        refine z_aldq (t0 := 1) (C := RX2) S hE hW (Nat.lt_of_lt_of_le (by decide) hn) cC_4 rfl j rfl (by omega) (by decide) (v := .ref (ad (10 + j))) rfl dX3_mean_29 ?_
        refine z_cVi (As := []) (rest := [.int (mnW al j)]) (k := (10 + j)) S hE hW (cX2_weightAboard_ok l D n ad cy sa H.size hn al ex j (by omega) a ha ha8) (cwV 0 hts gX3_mean_X2_weightAboard rfl rfl rfl (by decide +kernel) ⟨Nat.le_of_ble_eq_true rfl, Nat.le_of_ble_eq_true rfl⟩) (Nat.lt_of_lt_of_le (kC_s (by omega)) hn) (cC_s (i := j) (by omega)) rfl rfl rfl hl.1 rfl (Nat.le_of_ble_eq_true rfl) dX3_mean_30 ⟨Nat.le_of_ble_eq_true rfl, Nat.le_of_ble_eq_true rfl⟩ (fun r _ H locs hp hW => ?_)
        subst hp
        refine z_top2 (y := sumI (al (17 + j)) (ix (al (10 + j) 2))) (by rw [ha, ix_nI (show a < 2 ^ 31 by omega)]) ?_
        refine lv_iadd hx hb dX3_mean_33 ?_
        refine lv_istore_n (lv' := [(2, .int (mnW al j + (sumI (al (17 + j)) (ix (al (10 + j) 2))))), (0, .ref (ad 0)), (1, .int (sumI (fun i => al (10 + i) 2) N)), (3, .int (nI j))]) hx hb dX3_mean_34 rfl hl (by decide) rfl (fun ls hl => ?_)
        refine lv_iinc (v := nI (j + 1)) (lv' := [(3, .int (nI (j + 1))), (2, .int (mnW al j + (sumI (al (17 + j)) (ix (al (10 + j) 2))))), (0, .ref (ad 0)), (1, .int (sumI (fun i => al (10 + i) 2) N))]) hx hb dX3_mean_35 hl (k := 3) rfl (nI_1 _) (by decide) rfl (fun ls hl => ?_)
        refine lv_goto (tgt := 15) hx hb dX3_mean_38 (by decide) ?_
        exact ih (j + 1) H locs ls (by omega) hW (lv_sub hl [2, 3, 1, 0] rfl)
    exact L15 (N) 0 _ _ ls (by omega) hW (lv_sub hl [3, 2, 1, 0] rfl)
  · have hA0 : mnA al N = 0 := c6
    refine lv_dconst0 hx hb dX3_mean_9 ?_
    refine W.base ?_
    exact ze_d S hW hr hlk hd0 rfl (by unfold mnP; rw [if_pos hA0]) (Nat.le_of_ble_eq_true rfl) (Nat.le_of_ble_eq_true rfl) dX3_mean_10
