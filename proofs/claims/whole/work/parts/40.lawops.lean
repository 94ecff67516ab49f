/-! the calls of the sledge side, as they are tried -/
theorem cC_x {cy ad : Nat → Nat} {al : Nat → Nat → Int32} {ex : Nat → va_E} {k : Nat} (h : 28 ≤ k) : cC cy ad al ex k = ex k := if_neg (by omega)
/-- the row of the answers -/
def exW (cy : Nat → Nat) (ex : Nat → va_E) (f : Nat → Int64) : Nat → va_E := fun j => if j = 35 then .inl (cy 4, 1, .inr (.inl f)) else ex j
theorem exW_k {cy : Nat → Nat} {ex : Nat → va_E} {f : Nat → Int64} : exW cy ex f 35 = .inl (cy 4, 1, .inr (.inl f)) := if_pos rfl
theorem exW_id {cy : Nat → Nat} {ex : Nat → va_E} {f : Nat → Int64} (h : ex 35 = .inl (cy 4, 1, .inr (.inl f))) : exW cy ex f = ex := by
  funext j
  unfold exW
  by_cases q : j = 35
  · rw [if_pos q, q, h]
  · rw [if_neg q]
theorem exW_2 {cy : Nat → Nat} {ex : Nat → va_E} {f g : Nat → Int64} : exW cy (exW cy ex f) g = exW cy ex g := by
  funext j
  unfold exW
  by_cases q : j = 35
  · rw [if_pos q, if_pos q]
  · rw [if_neg q, if_neg q, if_neg q]
theorem cC_exW {cy ad : Nat → Nat} {al : Nat → Nat → Int32} {ex : Nat → va_E} {f : Nat → Int64} {j : Nat} (h : j ≠ 35) : cC cy ad al (exW cy ex f) j = cC cy ad al ex j := by
  unfold cC exW
  rw [if_neg h]
section ZL
variable {p : Program} {l : Launch} {e : Env} {R : Room} {s : State} {m : MethodId} {args : Array Value} {below : List Frame} {meth : Method} {c : Code} {H : Heap} {locs : List Loc} {cells slots : Nat} {Q : State → Prop}
variable {cc : ByteArray} {nL : Nat} {Ts : List Cond} {own : String} {pc : Nat} {ls : Array Slot} {rest : List Value} {D : va_G} {n : Nat} {ad cy sa : Nat → Nat} {ce ce' : Nat → va_E} {A : Nat → Prop}
theorem z_lst (S : CallFix p m c cc nL s args Ts own) (hE : ZEnv D cy sa A s) (hW : WS D n ad ce A s.heap H locs) {k : Nat} (hk : k < n) {N : Nat} {f : Nat → Int64} (he : ce k = .inl (cy 4, N, .inr (.inl f))) {i : Int32} {x : Int64} (j : Nat) (hi : i = nI j) (hj : j < N) (hN : N < 2 ^ 31) (h1 : ce' k = .inl (cy 4, N, .inr (.inl (vp_updL f j x)))) (h2 : ∀ j, j ≠ k → ce' j = ce j) (hdg : decode cc pc = .ok (.lastore, 1))
    (kk : ∀ (H1 : Heap) (locs1 : List Loc), WS D n ad ce' A s.heap H1 locs1 → W p l e R s m args below meth c H1 locs1 cells slots Q (F0 m (pc + 1) ls rest)) : W p l e R s m args below meth c H locs cells slots Q (F0 m pc ls (.long x :: .int i :: .ref (ad k) :: rest)) := by
  obtain ⟨hx, hb, hml, hown, hts⟩ := S
  subst hi
  refine va_last (D := D) hx hb hE.1.1 hW.1 hW.2.1 hW.2.2 k 4 (by rw [wL_get hk, he]) rfl (z_inj hj hN).1 hdg (fun H1 locs1 hP hD hS => ?_)
  rw [(z_inj hj hN).2, wL_set h1 h2] at hP hD
  exact kk H1 locs1 ⟨hP, hD, hS⟩
theorem z_lld (S : CallFix p m c cc nL s args Ts own) (hE : ZEnv D cy sa A s) (hW : WS D n ad ce A s.heap H locs) {k : Nat} (hk : k < n) {N : Nat} {f : Nat → Int64} (he : ce k = .inl (cy 4, N, .inr (.inl f))) {i : Int32} (j : Nat) (hi : i = nI j) (hj : j < N) (hN : N < 2 ^ 31) {v : Int64} (hv : f j = v) (hdg : decode cc pc = .ok (.laload, 1))
    (kk : W p l e R s m args below meth c H locs cells slots Q (F0 m (pc + 1) ls (.long v :: rest))) : W p l e R s m args below meth c H locs cells slots Q (F0 m pc ls (.int i :: .ref (ad k) :: rest)) := by
  obtain ⟨hx, hb, hml, hown, hts⟩ := S
  subst hi
  have h9 := (z_inj hj hN)
  refine va_lald (D := D) hx hb hE.1.1 hW.1 k 4 (by rw [wL_get hk, he]) rfl h9.1 hdg ?_
  rw [h9.2, hv]
  exact kk
end ZL
section ZLM
variable {l : Launch} {y : MethodName} {ws ws' : List Cond} {rm : Room} {Qc : Array Value → State → Outcome → State → Prop} {mc ms : Nat} {free : Addr → Prop} {cc : ByteArray} {maxL : Nat} {ret : Option FieldType} {hh : List (Nat × Nat × Nat × Nat)}
variable {D : va_G} {cy sa : Nat → Nat} {n : Nat} {ad : Nat → Nat} {ce : Nat → va_E} {sz : Nat} {av : List Value} {own : String}
theorem zs_law (hy : plainName y.cls = true) (hw : ws = Cond.codeWith y cc maxL ret hh :: ws') (ho : y.cls = own) (hav : (lg_sl av).length ≤ maxL)
    (body : ∀ p e s m args below meth c ls, CallFix p m c cc maxL s args ws own → c.exceptionTable.toList = tableOf hh → ZEnv D cy sa (Acc n ad s.heap.size) s → WS D n ad ce (Acc n ad s.heap.size) s.heap s.heap [] → meth.sig.returnType = ret → meth.locks = false → s.heap.size = sz → args = av.toArray → lv_has ls maxL (lv_args 0 av) → W p l e rm s m args below meth c s.heap [] 0 0 (MQ below Qc args s mc ms free) (F0 m 0 ls [])) : Met l y ws rm (PW D n ad cy sa sz ce av) Qc mc ms free := by
  refine MetFree.of_bodyS (code := cc) (maxLocals := maxL) (ret := ret) hy ?_ ?_
  · intro args s m h hn
    obtain ⟨m9, meth, c, hn9, h1, h2, h3, h4, -, h5, h6, -⟩ := Cond.codeWith_spec (atoms_spec (ws := ws) h _ (by rw [hw]; exact List.mem_cons_self))
    cases hn.symm.trans hn9
    exact ⟨meth, c, h1, h2, h3, h4, h5, h6⟩
  · intro p e s m args below meth c s₁ B hml hv _
    have hh0 : s₁.heap = s.heap := by rw [B.state]; rfl
    obtain ⟨rfl, hsz, hP, hD, hE⟩ := hv
    have hts := atoms_spec (ws := ws) B.pre
    have hown : s.vm.findClass own = some m.cls := by
      rw [← ho]
      exact findClass_of_methodNamed B.named
    subst hsz
    have hD2 : va_D (Acc n ad s.heap.size) (wL n ad ce) := ⟨hD.1, fun k q hk => by
      obtain ⟨h1, rfl⟩ := wL_inv hk
      exact Or.inl ⟨k, h1, rfl⟩⟩
    have hT := vx_table (x := y) B (hts _ (by rw [hw]; exact List.mem_cons_self))
    have hB := body p e s m _ below meth c _ ⟨B.exec, B.bytes, hml, hown, hts⟩ hT hE ⟨hP, hD2, va_S.rf⟩ B.returns B.notSynchronized rfl rfl (lv_entry av hav)
    rw [← lg_entry_eq] at hB
    obtain ⟨t, a1, o, b1, b2, b3⟩ := hB s₁ hh0 (Stand.of_body B)
    exact ⟨t, o, a1, b1, b2, ⟨b3.1, b3.2⟩⟩
end ZLM
set_option maxHeartbeats 4000000 in
set_option maxRecDepth 100000 in
theorem cL_set_ok (l : Launch) (D : va_G) (n : Nat) (ad cy sa : Nat → Nat) (sz : Nat) (hn : 36 ≤ n) (al : Nat → Nat → Int32) (ex : Nat → va_E) (f : Nat → Int64) (h35 : ex 35 = .inl (cy 4, 1, .inr (.inl f))) (x : Int32) (y : Int32) (z : Int32)  (hfl : l.stackTraces = false) : Met l yL_set wsL_set ({ frames := 7, cells := 1, slots := 6, locals := 134 }) (PW D n ad cy sa sz (cC cy ad al ex) [.ref (ad 0), .int x, .int y, .int z, .ref (ad 35)]) (QDi D n ad sz (nI (k_set al x y z)) (cC cy ad (if k_set al x y z = 0 then u_set al x y z else al) (exW cy ex (if k_set al x y z = 0 then vp_updL f 0 ((v_set al x y z).toInt64) else f)))) 1 6 (Acc n ad sz) := by
  refine zs_law (cc := cL_set) (maxL := 6) (ret := some .int) (own := RL) (by decide) rfl rfl (Nat.le_of_ble_eq_true rfl) ?_
  intro p e s m args below meth c ls S hT hE hW hr hlk hsz hav hl
  subst hsz
  have hx := S.1
  have hb := S.2.1
  have hown := S.2.2.2.1
  have hts := S.2.2.2.2
  have hl : lv_has ls 6 [(0, .ref (ad 0)), (1, .int x), (2, .int y), (3, .int z), (4, .ref (ad 35))] := hl
  have q13 := hts (.classLink RL 13 "java/lang/IndexOutOfBoundsException") (by decide +kernel)
  have q15 := hts (.classLink RL 15 "java/lang/IllegalArgumentException") (by decide +kernel)
  refine lv_aload hx hb dL_set_0 (lv_at hl 4 rfl) ?_
  refine lv_iconst (v := 0) hx hb dL_set_2 (by decide) ?_
  refine lv_aload_n hx hb dL_set_3 rfl (lv_at hl 0 rfl) ?_
  refine lv_iload_n hx hb dL_set_4 rfl (lv_at hl 1 rfl) ?_
  refine lv_iload_n hx hb dL_set_5 rfl (lv_at hl 2 rfl) ?_
  refine lv_iload_n hx hb dL_set_6 rfl (lv_at hl 3 rfl) ?_
  refine z_xVi (As := [.int x, .int y, .int z]) (rest := [.int 0, .ref (ad 35)]) (k := 0) S hE hW (cX3_set_ok l D n ad cy sa s.heap.size (by omega) al ex x y z  hfl) (cwV 3 hts gL_set_X3_set rfl rfl rfl (by decide +kernel) ⟨Nat.le_of_ble_eq_true rfl, Nat.le_of_ble_eq_true rfl⟩) (by omega) cC_0 rfl rfl rfl hl.1 rfl (Nat.le_of_ble_eq_true rfl) dL_set_7 ⟨Nat.le_of_ble_eq_true rfl, Nat.le_of_ble_eq_true rfl⟩ (fun E x9 q9 H locs hbad hW hx9 hv9 hc9 => ?_) (fun r _ H locs hp hW => ?_)
  · rcases hbad with ⟨rfl, hk⟩ | ⟨rfl, hk⟩
    · refine vx_catch (name := "java/lang/IndexOutOfBoundsException") hown [] ⟨0, 12, 15, 13⟩ [⟨0, 12, 19, 15⟩] hT (fun z hz => by cases hz) (by decide) (by show ¬ (13 : Nat) = 0; decide) q13 (va_Nw.use rfl (hE.1.2.1.at 18 rfl)) hx9 hv9 hc9 ?_
      refine lv_astore (lv' := [(5, .ref q9), (0, .ref (ad 0)), (1, .int x), (2, .int y), (3, .int z), (4, .ref (ad 35))]) hx hb dL_set_15 hl (by decide) rfl (fun ls hl => ?_)
      refine lv_iconst (v := 1) hx hb dL_set_17 (by decide) ?_
      exact ze_i S hW hr hlk () (by rw [hk]; exact congrArg (cC cy ad al) (exW_id h35).symm) (by rw [hk]; rfl) (Nat.le_of_ble_eq_true rfl) (Nat.le_of_ble_eq_true rfl) dL_set_18
    · refine vx_catch (name := "java/lang/IllegalArgumentException") hown [⟨0, 12, 15, 13⟩] ⟨0, 12, 19, 15⟩ [] hT (fun z hz => by cases hz with | head => exact Or.inr ⟨(by show ¬ (13 : Nat) = 0; decide), "java/lang/IndexOutOfBoundsException", q13, hE.1.2.2.1.2.2 ("java/lang/IllegalArgumentException", "java/lang/IndexOutOfBoundsException") (by decide)⟩ | tail _ hz => cases hz) (by decide) (by show ¬ (15 : Nat) = 0; decide) q15 (va_Nw.use rfl (hE.1.2.1.at 19 rfl)) hx9 hv9 hc9 ?_
      refine lv_astore (lv' := [(5, .ref q9), (0, .ref (ad 0)), (1, .int x), (2, .int y), (3, .int z), (4, .ref (ad 35))]) hx hb dL_set_19 hl (by decide) rfl (fun ls hl => ?_)
      refine lv_iconst (v := 2) hx hb dL_set_21 (by decide) ?_
      exact ze_i S hW hr hlk () (by rw [hk]; exact congrArg (cC cy ad al) (exW_id h35).symm) (by rw [hk]; rfl) (Nat.le_of_ble_eq_true rfl) (Nat.le_of_ble_eq_true rfl) dL_set_22
  · obtain ⟨hk, rfl⟩ := hp
    refine lv_i2l (v := (v_set al x y z).toInt64) hx hb dL_set_10 rfl ?_
    refine z_lst (ce' := cC cy ad (u_set al x y z) (exW cy ex (vp_updL f 0 ((v_set al x y z).toInt64)))) S hE hW (by omega) ((cC_x (by decide)).trans h35) 0 rfl (by decide) (by decide) ((cC_x (by decide)).trans exW_k) (fun j hj => cC_exW hj) dL_set_11 (fun H locs hW => ?_)
    refine lv_goto (tgt := 23) hx hb dL_set_12 (by decide) ?_
    refine lv_iconst (v := 0) hx hb dL_set_23 (by decide) ?_
    exact ze_i S hW hr hlk () (by rw [hk] <;> rfl) (by rw [hk]; rfl) (Nat.le_of_ble_eq_true rfl) (Nat.le_of_ble_eq_true rfl) dL_set_24
set_option maxHeartbeats 4000000 in
set_option maxRecDepth 100000 in
theorem cL_setGust_ok (l : Launch) (D : va_G) (n : Nat) (ad cy sa : Nat → Nat) (sz : Nat) (hn : 36 ≤ n) (al : Nat → Nat → Int32) (ex : Nat → va_E) (f : Nat → Int64) (h35 : ex 35 = .inl (cy 4, 1, .inr (.inl f))) (x : Int32) (y : Int32)  (hfl : l.stackTraces = false) : Met l yL_setGust wsL_setGust ({ frames := 7, cells := 1, slots := 6, locals := 133 }) (PW D n ad cy sa sz (cC cy ad al ex) [.ref (ad 0), .int x, .int y, .ref (ad 35)]) (QDi D n ad sz (nI (k_setGust al x y)) (cC cy ad (if k_setGust al x y = 0 then u_setGust al x y else al) (exW cy ex (if k_setGust al x y = 0 then vp_updL f 0 ((v_setGust al x y).toInt64) else f)))) 1 6 (Acc n ad sz) := by
  refine zs_law (cc := cL_setGust) (maxL := 5) (ret := some .int) (own := RL) (by decide) rfl rfl (Nat.le_of_ble_eq_true rfl) ?_
  intro p e s m args below meth c ls S hT hE hW hr hlk hsz hav hl
  subst hsz
  have hx := S.1
  have hb := S.2.1
  have hown := S.2.2.2.1
  have hts := S.2.2.2.2
  have hl : lv_has ls 5 [(0, .ref (ad 0)), (1, .int x), (2, .int y), (3, .ref (ad 35))] := hl
  have q13 := hts (.classLink RL 13 "java/lang/IndexOutOfBoundsException") (by decide +kernel)
  have q15 := hts (.classLink RL 15 "java/lang/IllegalArgumentException") (by decide +kernel)
  refine lv_aload_n hx hb dL_setGust_0 rfl (lv_at hl 3 rfl) ?_
  refine lv_iconst (v := 0) hx hb dL_setGust_1 (by decide) ?_
  refine lv_aload_n hx hb dL_setGust_2 rfl (lv_at hl 0 rfl) ?_
  refine lv_iload_n hx hb dL_setGust_3 rfl (lv_at hl 1 rfl) ?_
  refine lv_iload_n hx hb dL_setGust_4 rfl (lv_at hl 2 rfl) ?_
  refine z_xVi (As := [.int x, .int y]) (rest := [.int 0, .ref (ad 35)]) (k := 0) S hE hW (cX3_setGust_ok l D n ad cy sa s.heap.size (by omega) al ex x y  hfl) (cwV 2 hts gL_setGust_X3_setGust rfl rfl rfl (by decide +kernel) ⟨Nat.le_of_ble_eq_true rfl, Nat.le_of_ble_eq_true rfl⟩) (by omega) cC_0 rfl rfl rfl hl.1 rfl (Nat.le_of_ble_eq_true rfl) dL_setGust_5 ⟨Nat.le_of_ble_eq_true rfl, Nat.le_of_ble_eq_true rfl⟩ (fun E x9 q9 H locs hbad hW hx9 hv9 hc9 => ?_) (fun r _ H locs hp hW => ?_)
  · rcases hbad with ⟨rfl, hk⟩ | ⟨rfl, hk⟩
    · refine vx_catch (name := "java/lang/IndexOutOfBoundsException") hown [] ⟨0, 10, 13, 13⟩ [⟨0, 10, 17, 15⟩] hT (fun z hz => by cases hz) (by decide) (by show ¬ (13 : Nat) = 0; decide) q13 (va_Nw.use rfl (hE.1.2.1.at 18 rfl)) hx9 hv9 hc9 ?_
      refine lv_astore (lv' := [(4, .ref q9), (0, .ref (ad 0)), (1, .int x), (2, .int y), (3, .ref (ad 35))]) hx hb dL_setGust_13 hl (by decide) rfl (fun ls hl => ?_)
      refine lv_iconst (v := 1) hx hb dL_setGust_15 (by decide) ?_
      exact ze_i S hW hr hlk () (by rw [hk]; exact congrArg (cC cy ad al) (exW_id h35).symm) (by rw [hk]; rfl) (Nat.le_of_ble_eq_true rfl) (Nat.le_of_ble_eq_true rfl) dL_setGust_16
    · refine vx_catch (name := "java/lang/IllegalArgumentException") hown [⟨0, 10, 13, 13⟩] ⟨0, 10, 17, 15⟩ [] hT (fun z hz => by cases hz with | head => exact Or.inr ⟨(by show ¬ (13 : Nat) = 0; decide), "java/lang/IndexOutOfBoundsException", q13, hE.1.2.2.1.2.2 ("java/lang/IllegalArgumentException", "java/lang/IndexOutOfBoundsException") (by decide)⟩ | tail _ hz => cases hz) (by decide) (by show ¬ (15 : Nat) = 0; decide) q15 (va_Nw.use rfl (hE.1.2.1.at 19 rfl)) hx9 hv9 hc9 ?_
      refine lv_astore (lv' := [(4, .ref q9), (0, .ref (ad 0)), (1, .int x), (2, .int y), (3, .ref (ad 35))]) hx hb dL_setGust_17 hl (by decide) rfl (fun ls hl => ?_)
      refine lv_iconst (v := 2) hx hb dL_setGust_19 (by decide) ?_
      exact ze_i S hW hr hlk () (by rw [hk]; exact congrArg (cC cy ad al) (exW_id h35).symm) (by rw [hk]; rfl) (Nat.le_of_ble_eq_true rfl) (Nat.le_of_ble_eq_true rfl) dL_setGust_20
  · obtain ⟨hk, rfl⟩ := hp
    refine lv_i2l (v := (v_setGust al x y).toInt64) hx hb dL_setGust_8 rfl ?_
    refine z_lst (ce' := cC cy ad (u_setGust al x y) (exW cy ex (vp_updL f 0 ((v_setGust al x y).toInt64)))) S hE hW (by omega) ((cC_x (by decide)).trans h35) 0 rfl (by decide) (by decide) ((cC_x (by decide)).trans exW_k) (fun j hj => cC_exW hj) dL_setGust_9 (fun H locs hW => ?_)
    refine lv_goto (tgt := 21) hx hb dL_setGust_10 (by decide) ?_
    refine lv_iconst (v := 0) hx hb dL_setGust_21 (by decide) ?_
    exact ze_i S hW hr hlk () (by rw [hk] <;> rfl) (by rw [hk]; rfl) (Nat.le_of_ble_eq_true rfl) (Nat.le_of_ble_eq_true rfl) dL_setGust_22
set_option maxHeartbeats 4000000 in
set_option maxRecDepth 100000 in
theorem cL_build_ok (l : Launch) (D : va_G) (n : Nat) (ad cy sa : Nat → Nat) (sz : Nat) (hn : 36 ≤ n) (al : Nat → Nat → Int32) (ex : Nat → va_E) (f : Nat → Int64) (h35 : ex 35 = .inl (cy 4, 1, .inr (.inl f))) (x : Int32) (N : Nat) (hN : al 0 4 = nI N) (hN6 : N ≤ 6) (hfl : l.stackTraces = false) : Met l yL_build wsL_build ({ frames := 7, cells := 1, slots := 6, locals := 131 }) (PW D n ad cy sa sz (cC cy ad al ex) [.ref (ad 0), .int x, .ref (ad 35)]) (QDi D n ad sz (nI (k_build al x)) (cC cy ad (if k_build al x = 0 then u_build al x else al) (exW cy ex (if k_build al x = 0 then vp_updL f 0 ((v_build al x).toInt64) else f)))) 1 6 (Acc n ad sz) := by
  refine zs_law (cc := cL_build) (maxL := 4) (ret := some .int) (own := RL) (by decide) rfl rfl (Nat.le_of_ble_eq_true rfl) ?_
  intro p e s m args below meth c ls S hT hE hW hr hlk hsz hav hl
  subst hsz
  have hx := S.1
  have hb := S.2.1
  have hown := S.2.2.2.1
  have hts := S.2.2.2.2
  have hl : lv_has ls 4 [(0, .ref (ad 0)), (1, .int x), (2, .ref (ad 35))] := hl
  have q15 := hts (.classLink RL 15 "java/lang/IllegalArgumentException") (by decide +kernel)
  have q25 := hts (.classLink RL 25 "java/lang/IllegalStateException") (by decide +kernel)
  refine lv_aload_n hx hb dL_build_0 rfl (lv_at hl 2 rfl) ?_
  refine lv_iconst (v := 0) hx hb dL_build_1 (by decide) ?_
  refine lv_aload_n hx hb dL_build_2 rfl (lv_at hl 0 rfl) ?_
  refine lv_iload_n hx hb dL_build_3 rfl (lv_at hl 1 rfl) ?_
  refine z_xVi (As := [.int x]) (rest := [.int 0, .ref (ad 35)]) (k := 0) S hE hW (cX3_build_ok l D n ad cy sa s.heap.size (by omega) al ex x N hN hN6 hfl) (cwV 1 hts gL_build_X3_build rfl rfl rfl (by decide +kernel) ⟨Nat.le_of_ble_eq_true rfl, Nat.le_of_ble_eq_true rfl⟩) (by omega) cC_0 rfl rfl rfl hl.1 rfl (Nat.le_of_ble_eq_true rfl) dL_build_4 ⟨Nat.le_of_ble_eq_true rfl, Nat.le_of_ble_eq_true rfl⟩ (fun E x9 q9 H locs hbad hW hx9 hv9 hc9 => ?_) (fun r _ H locs hp hW => ?_)
  · rcases hbad with ⟨rfl, hk⟩ | ⟨rfl, hk⟩
    · refine vx_catch (name := "java/lang/IllegalArgumentException") hown [] ⟨0, 9, 12, 15⟩ [⟨0, 9, 15, 25⟩] hT (fun z hz => by cases hz) (by decide) (by show ¬ (15 : Nat) = 0; decide) q15 (va_Nw.use rfl (hE.1.2.1.at 19 rfl)) hx9 hv9 hc9 ?_
      refine lv_astore_n (lv' := [(3, .ref q9), (0, .ref (ad 0)), (1, .int x), (2, .ref (ad 35))]) hx hb dL_build_12 rfl hl (by decide) rfl (fun ls hl => ?_)
      refine lv_iconst (v := 1) hx hb dL_build_13 (by decide) ?_
      exact ze_i S hW hr hlk () (by rw [hk]; exact congrArg (cC cy ad al) (exW_id h35).symm) (by rw [hk]; rfl) (Nat.le_of_ble_eq_true rfl) (Nat.le_of_ble_eq_true rfl) dL_build_14
    · refine vx_catch (name := "java/lang/IllegalStateException") hown [⟨0, 9, 12, 15⟩] ⟨0, 9, 15, 25⟩ [] hT (fun z hz => by cases hz with | head => exact Or.inr ⟨(by show ¬ (15 : Nat) = 0; decide), "java/lang/IllegalArgumentException", q15, hE.1.2.2.1.2.2 ("java/lang/IllegalStateException", "java/lang/IllegalArgumentException") (by decide)⟩ | tail _ hz => cases hz) (by decide) (by show ¬ (25 : Nat) = 0; decide) q25 (va_Nw.use rfl (hE.1.2.1.at 20 rfl)) hx9 hv9 hc9 ?_
      refine lv_astore_n (lv' := [(3, .ref q9), (0, .ref (ad 0)), (1, .int x), (2, .ref (ad 35))]) hx hb dL_build_15 rfl hl (by decide) rfl (fun ls hl => ?_)
      refine lv_iconst (v := 2) hx hb dL_build_16 (by decide) ?_
      exact ze_i S hW hr hlk () (by rw [hk]; exact congrArg (cC cy ad al) (exW_id h35).symm) (by rw [hk]; rfl) (Nat.le_of_ble_eq_true rfl) (Nat.le_of_ble_eq_true rfl) dL_build_17
  · obtain ⟨hk, rfl⟩ := hp
    refine lv_i2l (v := (v_build al x).toInt64) hx hb dL_build_7 rfl ?_
    refine z_lst (ce' := cC cy ad (u_build al x) (exW cy ex (vp_updL f 0 ((v_build al x).toInt64)))) S hE hW (by omega) ((cC_x (by decide)).trans h35) 0 rfl (by decide) (by decide) ((cC_x (by decide)).trans exW_k) (fun j hj => cC_exW hj) dL_build_8 (fun H locs hW => ?_)
    refine lv_goto (tgt := 18) hx hb dL_build_9 (by decide) ?_
    refine lv_iconst (v := 0) hx hb dL_build_18 (by decide) ?_
    exact ze_i S hW hr hlk () (by rw [hk] <;> rfl) (by rw [hk]; rfl) (Nat.le_of_ble_eq_true rfl) (Nat.le_of_ble_eq_true rfl) dL_build_19
set_option maxHeartbeats 4000000 in
set_option maxRecDepth 100000 in
theorem cL_fill_ok (l : Launch) (D : va_G) (n : Nat) (ad cy sa : Nat → Nat) (sz : Nat) (hn : 36 ≤ n) (al : Nat → Nat → Int32) (ex : Nat → va_E) (f : Nat → Int64) (h35 : ex 35 = .inl (cy 4, 1, .inr (.inl f))) (x : Int32) (y : Int32) (N : Nat) (hN : al 0 4 = nI N) (hN6 : N ≤ 6) (hab : abOK al) (hfl : l.stackTraces = false) : Met l yL_fill wsL_fill ({ frames := 7, cells := 1, slots := 6, locals := 134 }) (PW D n ad cy sa sz (cC cy ad al ex) [.ref (ad 0), .int x, .int y, .ref (ad 35)]) (QDi D n ad sz (nI (k_fill al x y)) (cC cy ad (if k_fill al x y = 0 then u_fill al x y else al) (exW cy ex (if k_fill al x y = 0 then vp_updL f 0 ((v_fill al x y).toInt64) else f)))) 1 6 (Acc n ad sz) := by
  refine zs_law (cc := cL_fill) (maxL := 5) (ret := some .int) (own := RL) (by decide) rfl rfl (Nat.le_of_ble_eq_true rfl) ?_
  intro p e s m args below meth c ls S hT hE hW hr hlk hsz hav hl
  subst hsz
  have hx := S.1
  have hb := S.2.1
  have hown := S.2.2.2.1
  have hts := S.2.2.2.2
  have hl : lv_has ls 5 [(0, .ref (ad 0)), (1, .int x), (2, .int y), (3, .ref (ad 35))] := hl
  have q13 := hts (.classLink RL 13 "java/lang/IndexOutOfBoundsException") (by decide +kernel)
  have q25 := hts (.classLink RL 25 "java/lang/IllegalStateException") (by decide +kernel)
  refine lv_aload_n hx hb dL_fill_0 rfl (lv_at hl 3 rfl) ?_
  refine lv_iconst (v := 0) hx hb dL_fill_1 (by decide) ?_
  refine lv_aload_n hx hb dL_fill_2 rfl (lv_at hl 0 rfl) ?_
  refine lv_iload_n hx hb dL_fill_3 rfl (lv_at hl 1 rfl) ?_
  refine lv_iload_n hx hb dL_fill_4 rfl (lv_at hl 2 rfl) ?_
  refine z_xVi (As := [.int x, .int y]) (rest := [.int 0, .ref (ad 35)]) (k := 0) S hE hW (cX3_fill_ok l D n ad cy sa s.heap.size (by omega) al ex x y N hN hN6 hab hfl) (cwV 2 hts gL_fill_X3_fill rfl rfl rfl (by decide +kernel) ⟨Nat.le_of_ble_eq_true rfl, Nat.le_of_ble_eq_true rfl⟩) (by omega) cC_0 rfl rfl rfl hl.1 rfl (Nat.le_of_ble_eq_true rfl) dL_fill_5 ⟨Nat.le_of_ble_eq_true rfl, Nat.le_of_ble_eq_true rfl⟩ (fun E x9 q9 H locs hbad hW hx9 hv9 hc9 => ?_) (fun r _ H locs hp hW => ?_)
  · rcases hbad with ⟨rfl, hk⟩ | ⟨rfl, hk⟩
    · refine vx_catch (name := "java/lang/IndexOutOfBoundsException") hown [] ⟨0, 10, 13, 13⟩ [⟨0, 10, 17, 25⟩] hT (fun z hz => by cases hz) (by decide) (by show ¬ (13 : Nat) = 0; decide) q13 (va_Nw.use rfl (hE.1.2.1.at 18 rfl)) hx9 hv9 hc9 ?_
      refine lv_astore (lv' := [(4, .ref q9), (0, .ref (ad 0)), (1, .int x), (2, .int y), (3, .ref (ad 35))]) hx hb dL_fill_13 hl (by decide) rfl (fun ls hl => ?_)
      refine lv_iconst (v := 1) hx hb dL_fill_15 (by decide) ?_
      exact ze_i S hW hr hlk () (by rw [hk]; exact congrArg (cC cy ad al) (exW_id h35).symm) (by rw [hk]; rfl) (Nat.le_of_ble_eq_true rfl) (Nat.le_of_ble_eq_true rfl) dL_fill_16
    · refine vx_catch (name := "java/lang/IllegalStateException") hown [⟨0, 10, 13, 13⟩] ⟨0, 10, 17, 25⟩ [] hT (fun z hz => by cases hz with | head => exact Or.inr ⟨(by show ¬ (13 : Nat) = 0; decide), "java/lang/IndexOutOfBoundsException", q13, hE.1.2.2.1.2.2 ("java/lang/IllegalStateException", "java/lang/IndexOutOfBoundsException") (by decide)⟩ | tail _ hz => cases hz) (by decide) (by show ¬ (25 : Nat) = 0; decide) q25 (va_Nw.use rfl (hE.1.2.1.at 20 rfl)) hx9 hv9 hc9 ?_
      refine lv_astore (lv' := [(4, .ref q9), (0, .ref (ad 0)), (1, .int x), (2, .int y), (3, .ref (ad 35))]) hx hb dL_fill_17 hl (by decide) rfl (fun ls hl => ?_)
      refine lv_iconst (v := 2) hx hb dL_fill_19 (by decide) ?_
      exact ze_i S hW hr hlk () (by rw [hk]; exact congrArg (cC cy ad al) (exW_id h35).symm) (by rw [hk]; rfl) (Nat.le_of_ble_eq_true rfl) (Nat.le_of_ble_eq_true rfl) dL_fill_20
  · obtain ⟨hk, rfl⟩ := hp
    refine lv_i2l (v := (v_fill al x y).toInt64) hx hb dL_fill_8 rfl ?_
    refine z_lst (ce' := cC cy ad (u_fill al x y) (exW cy ex (vp_updL f 0 ((v_fill al x y).toInt64)))) S hE hW (by omega) ((cC_x (by decide)).trans h35) 0 rfl (by decide) (by decide) ((cC_x (by decide)).trans exW_k) (fun j hj => cC_exW hj) dL_fill_9 (fun H locs hW => ?_)
    refine lv_goto (tgt := 21) hx hb dL_fill_10 (by decide) ?_
    refine lv_iconst (v := 0) hx hb dL_fill_21 (by decide) ?_
    exact ze_i S hW hr hlk () (by rw [hk] <;> rfl) (by rw [hk]; rfl) (Nat.le_of_ble_eq_true rfl) (Nat.le_of_ble_eq_true rfl) dL_fill_22
set_option maxHeartbeats 4000000 in
set_option maxRecDepth 100000 in
theorem cL_go_ok (l : Launch) (D : va_G) (n : Nat) (ad cy sa : Nat → Nat) (sz : Nat) (hn : 36 ≤ n) (al : Nat → Nat → Int32) (ex : Nat → va_E) (f : Nat → Int64) (h35 : ex 35 = .inl (cy 4, 1, .inr (.inl f))) (x : Int32) (N : Nat) (hN : al 0 4 = nI N) (hN6 : N ≤ 6) (hfl : l.stackTraces = false) : Met l yL_go wsL_go ({ frames := 7, cells := 1, slots := 6, locals := 132 }) (PW D n ad cy sa sz (cC cy ad al ex) [.ref (ad 0), .int x, .ref (ad 35)]) (QDi D n ad sz (nI (k_go al x)) (cC cy ad (if k_go al x = 0 then u_go al x else al) (exW cy ex (if k_go al x = 0 then vp_updL f 0 ((v_go al x).toInt64) else f)))) 1 6 (Acc n ad sz) := by
  refine zs_law (cc := cL_go) (maxL := 4) (ret := some .int) (own := RL) (by decide) rfl rfl (Nat.le_of_ble_eq_true rfl) ?_
  intro p e s m args below meth c ls S hT hE hW hr hlk hsz hav hl
  subst hsz
  have hx := S.1
  have hb := S.2.1
  have hown := S.2.2.2.1
  have hts := S.2.2.2.2
  have hl : lv_has ls 4 [(0, .ref (ad 0)), (1, .int x), (2, .ref (ad 35))] := hl
  have q13 := hts (.classLink RL 13 "java/lang/IndexOutOfBoundsException") (by decide +kernel)
  have q25 := hts (.classLink RL 25 "java/lang/IllegalStateException") (by decide +kernel)
  refine lv_aload_n hx hb dL_go_0 rfl (lv_at hl 2 rfl) ?_
  refine lv_iconst (v := 0) hx hb dL_go_1 (by decide) ?_
  refine lv_aload_n hx hb dL_go_2 rfl (lv_at hl 0 rfl) ?_
  refine lv_iload_n hx hb dL_go_3 rfl (lv_at hl 1 rfl) ?_
  refine z_xVi (As := [.int x]) (rest := [.int 0, .ref (ad 35)]) (k := 0) S hE hW (cX3_go_ok l D n ad cy sa s.heap.size (by omega) al ex x N hN hN6 hfl) (cwV 1 hts gL_go_X3_go rfl rfl rfl (by decide +kernel) ⟨Nat.le_of_ble_eq_true rfl, Nat.le_of_ble_eq_true rfl⟩) (by omega) cC_0 rfl rfl rfl hl.1 rfl (Nat.le_of_ble_eq_true rfl) dL_go_4 ⟨Nat.le_of_ble_eq_true rfl, Nat.le_of_ble_eq_true rfl⟩ (fun E x9 q9 H locs hbad hW hx9 hv9 hc9 => ?_) (fun r _ H locs hp hW => ?_)
  · rcases hbad with ⟨rfl, hk⟩ | ⟨rfl, hk⟩
    · refine vx_catch (name := "java/lang/IndexOutOfBoundsException") hown [] ⟨0, 9, 12, 13⟩ [⟨0, 9, 15, 25⟩] hT (fun z hz => by cases hz) (by decide) (by show ¬ (13 : Nat) = 0; decide) q13 (va_Nw.use rfl (hE.1.2.1.at 18 rfl)) hx9 hv9 hc9 ?_
      refine lv_astore_n (lv' := [(3, .ref q9), (0, .ref (ad 0)), (1, .int x), (2, .ref (ad 35))]) hx hb dL_go_12 rfl hl (by decide) rfl (fun ls hl => ?_)
      refine lv_iconst (v := 1) hx hb dL_go_13 (by decide) ?_
      exact ze_i S hW hr hlk () (by rw [hk]; exact congrArg (cC cy ad al) (exW_id h35).symm) (by rw [hk]; rfl) (Nat.le_of_ble_eq_true rfl) (Nat.le_of_ble_eq_true rfl) dL_go_14
    · refine vx_catch (name := "java/lang/IllegalStateException") hown [⟨0, 9, 12, 13⟩] ⟨0, 9, 15, 25⟩ [] hT (fun z hz => by cases hz with | head => exact Or.inr ⟨(by show ¬ (13 : Nat) = 0; decide), "java/lang/IndexOutOfBoundsException", q13, hE.1.2.2.1.2.2 ("java/lang/IllegalStateException", "java/lang/IndexOutOfBoundsException") (by decide)⟩ | tail _ hz => cases hz) (by decide) (by show ¬ (25 : Nat) = 0; decide) q25 (va_Nw.use rfl (hE.1.2.1.at 20 rfl)) hx9 hv9 hc9 ?_
      refine lv_astore_n (lv' := [(3, .ref q9), (0, .ref (ad 0)), (1, .int x), (2, .ref (ad 35))]) hx hb dL_go_15 rfl hl (by decide) rfl (fun ls hl => ?_)
      refine lv_iconst (v := 2) hx hb dL_go_16 (by decide) ?_
      exact ze_i S hW hr hlk () (by rw [hk]; exact congrArg (cC cy ad al) (exW_id h35).symm) (by rw [hk]; rfl) (Nat.le_of_ble_eq_true rfl) (Nat.le_of_ble_eq_true rfl) dL_go_17
  · obtain ⟨hk, rfl⟩ := hp
    refine lv_i2l (v := (v_go al x).toInt64) hx hb dL_go_7 rfl ?_
    refine z_lst (ce' := cC cy ad (u_go al x) (exW cy ex (vp_updL f 0 ((v_go al x).toInt64)))) S hE hW (by omega) ((cC_x (by decide)).trans h35) 0 rfl (by decide) (by decide) ((cC_x (by decide)).trans exW_k) (fun j hj => cC_exW hj) dL_go_8 (fun H locs hW => ?_)
    refine lv_goto (tgt := 18) hx hb dL_go_9 (by decide) ?_
    refine lv_iconst (v := 0) hx hb dL_go_18 (by decide) ?_
    exact ze_i S hW hr hlk () (by rw [hk] <;> rfl) (by rw [hk]; rfl) (Nat.le_of_ble_eq_true rfl) (Nat.le_of_ble_eq_true rfl) dL_go_19
set_option maxHeartbeats 4000000 in
set_option maxRecDepth 100000 in
theorem cL_launch_ok (l : Launch) (D : va_G) (n : Nat) (ad cy sa : Nat → Nat) (sz : Nat) (hn : 36 ≤ n) (al : Nat → Nat → Int32) (ex : Nat → va_E) (f : Nat → Int64) (h35 : ex 35 = .inl (cy 4, 1, .inr (.inl f))) (x : Int32) (B : Nat) (hB : al 0 6 = nI B) (hB4 : B ≤ 4) (hfl : l.stackTraces = false) : Met l yL_launch wsL_launch ({ frames := 7, cells := 1, slots := 6, locals := 131 }) (PW D n ad cy sa sz (cC cy ad al ex) [.ref (ad 0), .int x, .ref (ad 35)]) (QDi D n ad sz (nI (k_launch al x)) (cC cy ad (if k_launch al x = 0 then u_launch al x else al) (exW cy ex (if k_launch al x = 0 then vp_updL f 0 ((v_launch al x).toInt64) else f)))) 1 6 (Acc n ad sz) := by
  refine zs_law (cc := cL_launch) (maxL := 4) (ret := some .int) (own := RL) (by decide) rfl rfl (Nat.le_of_ble_eq_true rfl) ?_
  intro p e s m args below meth c ls S hT hE hW hr hlk hsz hav hl
  subst hsz
  have hx := S.1
  have hb := S.2.1
  have hown := S.2.2.2.1
  have hts := S.2.2.2.2
  have hl : lv_has ls 4 [(0, .ref (ad 0)), (1, .int x), (2, .ref (ad 35))] := hl
  have q15 := hts (.classLink RL 15 "java/lang/IllegalArgumentException") (by decide +kernel)
  have q25 := hts (.classLink RL 25 "java/lang/IllegalStateException") (by decide +kernel)
  refine lv_aload_n hx hb dL_launch_0 rfl (lv_at hl 2 rfl) ?_
  refine lv_iconst (v := 0) hx hb dL_launch_1 (by decide) ?_
  refine lv_aload_n hx hb dL_launch_2 rfl (lv_at hl 0 rfl) ?_
  refine lv_iload_n hx hb dL_launch_3 rfl (lv_at hl 1 rfl) ?_
  refine z_xVi (As := [.int x]) (rest := [.int 0, .ref (ad 35)]) (k := 0) S hE hW (cX3_launch_ok l D n ad cy sa s.heap.size (by omega) al ex x B hB hB4 hfl) (cwV 1 hts gL_launch_X3_launch rfl rfl rfl (by decide +kernel) ⟨Nat.le_of_ble_eq_true rfl, Nat.le_of_ble_eq_true rfl⟩) (by omega) cC_0 rfl rfl rfl hl.1 rfl (Nat.le_of_ble_eq_true rfl) dL_launch_4 ⟨Nat.le_of_ble_eq_true rfl, Nat.le_of_ble_eq_true rfl⟩ (fun E x9 q9 H locs hbad hW hx9 hv9 hc9 => ?_) (fun r _ H locs hp hW => ?_)
  · rcases hbad with ⟨rfl, hk⟩ | ⟨rfl, hk⟩
    · refine vx_catch (name := "java/lang/IllegalArgumentException") hown [] ⟨0, 9, 12, 15⟩ [⟨0, 9, 15, 25⟩] hT (fun z hz => by cases hz) (by decide) (by show ¬ (15 : Nat) = 0; decide) q15 (va_Nw.use rfl (hE.1.2.1.at 19 rfl)) hx9 hv9 hc9 ?_
      refine lv_astore_n (lv' := [(3, .ref q9), (0, .ref (ad 0)), (1, .int x), (2, .ref (ad 35))]) hx hb dL_launch_12 rfl hl (by decide) rfl (fun ls hl => ?_)
      refine lv_iconst (v := 1) hx hb dL_launch_13 (by decide) ?_
      exact ze_i S hW hr hlk () (by rw [hk]; exact congrArg (cC cy ad al) (exW_id h35).symm) (by rw [hk]; rfl) (Nat.le_of_ble_eq_true rfl) (Nat.le_of_ble_eq_true rfl) dL_launch_14
    · refine vx_catch (name := "java/lang/IllegalStateException") hown [⟨0, 9, 12, 15⟩] ⟨0, 9, 15, 25⟩ [] hT (fun z hz => by cases hz with | head => exact Or.inr ⟨(by show ¬ (15 : Nat) = 0; decide), "java/lang/IllegalArgumentException", q15, hE.1.2.2.1.2.2 ("java/lang/IllegalStateException", "java/lang/IllegalArgumentException") (by decide)⟩ | tail _ hz => cases hz) (by decide) (by show ¬ (25 : Nat) = 0; decide) q25 (va_Nw.use rfl (hE.1.2.1.at 20 rfl)) hx9 hv9 hc9 ?_
      refine lv_astore_n (lv' := [(3, .ref q9), (0, .ref (ad 0)), (1, .int x), (2, .ref (ad 35))]) hx hb dL_launch_15 rfl hl (by decide) rfl (fun ls hl => ?_)
      refine lv_iconst (v := 2) hx hb dL_launch_16 (by decide) ?_
      exact ze_i S hW hr hlk () (by rw [hk]; exact congrArg (cC cy ad al) (exW_id h35).symm) (by rw [hk]; rfl) (Nat.le_of_ble_eq_true rfl) (Nat.le_of_ble_eq_true rfl) dL_launch_17
  · obtain ⟨hk, rfl⟩ := hp
    refine lv_i2l (v := (v_launch al x).toInt64) hx hb dL_launch_7 rfl ?_
    refine z_lst (ce' := cC cy ad (u_launch al x) (exW cy ex (vp_updL f 0 ((v_launch al x).toInt64)))) S hE hW (by omega) ((cC_x (by decide)).trans h35) 0 rfl (by decide) (by decide) ((cC_x (by decide)).trans exW_k) (fun j hj => cC_exW hj) dL_launch_8 (fun H locs hW => ?_)
    refine lv_goto (tgt := 18) hx hb dL_launch_9 (by decide) ?_
    refine lv_iconst (v := 0) hx hb dL_launch_18 (by decide) ?_
    exact ze_i S hW hr hlk () (by rw [hk] <;> rfl) (by rw [hk]; rfl) (Nat.le_of_ble_eq_true rfl) (Nat.le_of_ble_eq_true rfl) dL_launch_19
set_option maxHeartbeats 4000000 in
set_option maxRecDepth 100000 in
theorem cL_stow_ok (l : Launch) (D : va_G) (n : Nat) (ad cy sa : Nat → Nat) (sz : Nat) (hn : 36 ≤ n) (al : Nat → Nat → Int32) (ex : Nat → va_E) (f : Nat → Int64) (h35 : ex 35 = .inl (cy 4, 1, .inr (.inl f))) (x : Int32) (y : Int32) (z : Int32) (B : Nat) (hB : al 0 6 = nI B) (hB4 : B ≤ 4) (hfl : l.stackTraces = false) : Met l yL_stow wsL_stow ({ frames := 7, cells := 1, slots := 6, locals := 135 }) (PW D n ad cy sa sz (cC cy ad al ex) [.ref (ad 0), .int x, .int y, .int z, .ref (ad 35)]) (QDi D n ad sz (nI (k_stow al x y z)) (cC cy ad (if k_stow al x y z = 0 then u_stow al x y z else al) (exW cy ex (if k_stow al x y z = 0 then vp_updL f 0 ((v_stow al x y z).toInt64) else f)))) 1 6 (Acc n ad sz) := by
  refine zs_law (cc := cL_stow) (maxL := 6) (ret := some .int) (own := RL) (by decide) rfl rfl (Nat.le_of_ble_eq_true rfl) ?_
  intro p e s m args below meth c ls S hT hE hW hr hlk hsz hav hl
  subst hsz
  have hx := S.1
  have hb := S.2.1
  have hown := S.2.2.2.1
  have hts := S.2.2.2.2
  have hl : lv_has ls 6 [(0, .ref (ad 0)), (1, .int x), (2, .int y), (3, .int z), (4, .ref (ad 35))] := hl
  have q13 := hts (.classLink RL 13 "java/lang/IndexOutOfBoundsException") (by decide +kernel)
  have q25 := hts (.classLink RL 25 "java/lang/IllegalStateException") (by decide +kernel)
  refine lv_aload hx hb dL_stow_0 (lv_at hl 4 rfl) ?_
  refine lv_iconst (v := 0) hx hb dL_stow_2 (by decide) ?_
  refine lv_aload_n hx hb dL_stow_3 rfl (lv_at hl 0 rfl) ?_
  refine lv_iload_n hx hb dL_stow_4 rfl (lv_at hl 1 rfl) ?_
  refine lv_iload_n hx hb dL_stow_5 rfl (lv_at hl 2 rfl) ?_
  refine lv_iload_n hx hb dL_stow_6 rfl (lv_at hl 3 rfl) ?_
  refine z_xVi (As := [.int x, .int y, .int z]) (rest := [.int 0, .ref (ad 35)]) (k := 0) S hE hW (cX3_stow_ok l D n ad cy sa s.heap.size (by omega) al ex x y z B hB hB4 hfl) (cwV 3 hts gL_stow_X3_stow rfl rfl rfl (by decide +kernel) ⟨Nat.le_of_ble_eq_true rfl, Nat.le_of_ble_eq_true rfl⟩) (by omega) cC_0 rfl rfl rfl hl.1 rfl (Nat.le_of_ble_eq_true rfl) dL_stow_7 ⟨Nat.le_of_ble_eq_true rfl, Nat.le_of_ble_eq_true rfl⟩ (fun E x9 q9 H locs hbad hW hx9 hv9 hc9 => ?_) (fun r _ H locs hp hW => ?_)
  · rcases hbad with ⟨rfl, hk⟩ | ⟨rfl, hk⟩
    · refine vx_catch (name := "java/lang/IndexOutOfBoundsException") hown [] ⟨0, 12, 15, 13⟩ [⟨0, 12, 19, 25⟩] hT (fun z hz => by cases hz) (by decide) (by show ¬ (13 : Nat) = 0; decide) q13 (va_Nw.use rfl (hE.1.2.1.at 18 rfl)) hx9 hv9 hc9 ?_
      refine lv_astore (lv' := [(5, .ref q9), (0, .ref (ad 0)), (1, .int x), (2, .int y), (3, .int z), (4, .ref (ad 35))]) hx hb dL_stow_15 hl (by decide) rfl (fun ls hl => ?_)
      refine lv_iconst (v := 1) hx hb dL_stow_17 (by decide) ?_
      exact ze_i S hW hr hlk () (by rw [hk]; exact congrArg (cC cy ad al) (exW_id h35).symm) (by rw [hk]; rfl) (Nat.le_of_ble_eq_true rfl) (Nat.le_of_ble_eq_true rfl) dL_stow_18
    · refine vx_catch (name := "java/lang/IllegalStateException") hown [⟨0, 12, 15, 13⟩] ⟨0, 12, 19, 25⟩ [] hT (fun z hz => by cases hz with | head => exact Or.inr ⟨(by show ¬ (13 : Nat) = 0; decide), "java/lang/IndexOutOfBoundsException", q13, hE.1.2.2.1.2.2 ("java/lang/IllegalStateException", "java/lang/IndexOutOfBoundsException") (by decide)⟩ | tail _ hz => cases hz) (by decide) (by show ¬ (25 : Nat) = 0; decide) q25 (va_Nw.use rfl (hE.1.2.1.at 20 rfl)) hx9 hv9 hc9 ?_
      refine lv_astore (lv' := [(5, .ref q9), (0, .ref (ad 0)), (1, .int x), (2, .int y), (3, .int z), (4, .ref (ad 35))]) hx hb dL_stow_19 hl (by decide) rfl (fun ls hl => ?_)
      refine lv_iconst (v := 2) hx hb dL_stow_21 (by decide) ?_
      exact ze_i S hW hr hlk () (by rw [hk]; exact congrArg (cC cy ad al) (exW_id h35).symm) (by rw [hk]; rfl) (Nat.le_of_ble_eq_true rfl) (Nat.le_of_ble_eq_true rfl) dL_stow_22
  · obtain ⟨hk, rfl⟩ := hp
    refine lv_i2l (v := (v_stow al x y z).toInt64) hx hb dL_stow_10 rfl ?_
    refine z_lst (ce' := cC cy ad (u_stow al x y z) (exW cy ex (vp_updL f 0 ((v_stow al x y z).toInt64)))) S hE hW (by omega) ((cC_x (by decide)).trans h35) 0 rfl (by decide) (by decide) ((cC_x (by decide)).trans exW_k) (fun j hj => cC_exW hj) dL_stow_11 (fun H locs hW => ?_)
    refine lv_goto (tgt := 23) hx hb dL_stow_12 (by decide) ?_
    refine lv_iconst (v := 0) hx hb dL_stow_23 (by decide) ?_
    exact ze_i S hW hr hlk () (by rw [hk] <;> rfl) (by rw [hk]; rfl) (Nat.le_of_ble_eq_true rfl) (Nat.le_of_ble_eq_true rfl) dL_stow_24
set_option maxHeartbeats 4000000 in
set_option maxRecDepth 100000 in
theorem cL_sail_ok (l : Launch) (D : va_G) (n : Nat) (ad cy sa : Nat → Nat) (sz : Nat) (hn : 36 ≤ n) (al : Nat → Nat → Int32) (ex : Nat → va_E) (f : Nat → Int64) (h35 : ex 35 = .inl (cy 4, 1, .inr (.inl f))) (x : Int32) (B : Nat) (hB : al 0 6 = nI B) (hB4 : B ≤ 4) (hfl : l.stackTraces = false) : Met l yL_sail wsL_sail ({ frames := 7, cells := 1, slots := 6, locals := 144 }) (PW D n ad cy sa sz (cC cy ad al ex) [.ref (ad 0), .int x, .ref (ad 35)]) (QDi D n ad sz (nI (k_sail al x)) (cC cy ad (if k_sail al x = 0 then u_sail al x else al) (exW cy ex (if k_sail al x = 0 then vp_updL f 0 ((v_sail al x).toInt64) else f)))) 1 6 (Acc n ad sz) := by
  refine zs_law (cc := cL_sail) (maxL := 4) (ret := some .int) (own := RL) (by decide) rfl rfl (Nat.le_of_ble_eq_true rfl) ?_
  intro p e s m args below meth c ls S hT hE hW hr hlk hsz hav hl
  subst hsz
  have hx := S.1
  have hb := S.2.1
  have hown := S.2.2.2.1
  have hts := S.2.2.2.2
  have hl : lv_has ls 4 [(0, .ref (ad 0)), (1, .int x), (2, .ref (ad 35))] := hl
  have q13 := hts (.classLink RL 13 "java/lang/IndexOutOfBoundsException") (by decide +kernel)
  have q25 := hts (.classLink RL 25 "java/lang/IllegalStateException") (by decide +kernel)
  refine lv_aload_n hx hb dL_sail_0 rfl (lv_at hl 2 rfl) ?_
  refine lv_iconst (v := 0) hx hb dL_sail_1 (by decide) ?_
  refine lv_aload_n hx hb dL_sail_2 rfl (lv_at hl 0 rfl) ?_
  refine lv_iload_n hx hb dL_sail_3 rfl (lv_at hl 1 rfl) ?_
  refine z_xVi (As := [.int x]) (rest := [.int 0, .ref (ad 35)]) (k := 0) S hE hW (cX3_sail_ok l D n ad cy sa s.heap.size (by omega) al ex x B hB hB4 hfl) (cwV 1 hts gL_sail_X3_sail rfl rfl rfl (by decide +kernel) ⟨Nat.le_of_ble_eq_true rfl, Nat.le_of_ble_eq_true rfl⟩) (by omega) cC_0 rfl rfl rfl hl.1 rfl (Nat.le_of_ble_eq_true rfl) dL_sail_4 ⟨Nat.le_of_ble_eq_true rfl, Nat.le_of_ble_eq_true rfl⟩ (fun E x9 q9 H locs hbad hW hx9 hv9 hc9 => ?_) (fun r _ H locs hp hW => ?_)
  · rcases hbad with ⟨rfl, hk⟩ | ⟨rfl, hk⟩
    · refine vx_catch (name := "java/lang/IndexOutOfBoundsException") hown [] ⟨0, 9, 12, 13⟩ [⟨0, 9, 15, 25⟩] hT (fun z hz => by cases hz) (by decide) (by show ¬ (13 : Nat) = 0; decide) q13 (va_Nw.use rfl (hE.1.2.1.at 18 rfl)) hx9 hv9 hc9 ?_
      refine lv_astore_n (lv' := [(3, .ref q9), (0, .ref (ad 0)), (1, .int x), (2, .ref (ad 35))]) hx hb dL_sail_12 rfl hl (by decide) rfl (fun ls hl => ?_)
      refine lv_iconst (v := 1) hx hb dL_sail_13 (by decide) ?_
      exact ze_i S hW hr hlk () (by rw [hk]; exact congrArg (cC cy ad al) (exW_id h35).symm) (by rw [hk]; rfl) (Nat.le_of_ble_eq_true rfl) (Nat.le_of_ble_eq_true rfl) dL_sail_14
    · refine vx_catch (name := "java/lang/IllegalStateException") hown [⟨0, 9, 12, 13⟩] ⟨0, 9, 15, 25⟩ [] hT (fun z hz => by cases hz with | head => exact Or.inr ⟨(by show ¬ (13 : Nat) = 0; decide), "java/lang/IndexOutOfBoundsException", q13, hE.1.2.2.1.2.2 ("java/lang/IllegalStateException", "java/lang/IndexOutOfBoundsException") (by decide)⟩ | tail _ hz => cases hz) (by decide) (by show ¬ (25 : Nat) = 0; decide) q25 (va_Nw.use rfl (hE.1.2.1.at 20 rfl)) hx9 hv9 hc9 ?_
      refine lv_astore_n (lv' := [(3, .ref q9), (0, .ref (ad 0)), (1, .int x), (2, .ref (ad 35))]) hx hb dL_sail_15 rfl hl (by decide) rfl (fun ls hl => ?_)
      refine lv_iconst (v := 2) hx hb dL_sail_16 (by decide) ?_
      exact ze_i S hW hr hlk () (by rw [hk]; exact congrArg (cC cy ad al) (exW_id h35).symm) (by rw [hk]; rfl) (Nat.le_of_ble_eq_true rfl) (Nat.le_of_ble_eq_true rfl) dL_sail_17
  · obtain ⟨hk, rfl⟩ := hp
    refine lv_i2l (v := (v_sail al x).toInt64) hx hb dL_sail_7 rfl ?_
    refine z_lst (ce' := cC cy ad (u_sail al x) (exW cy ex (vp_updL f 0 ((v_sail al x).toInt64)))) S hE hW (by omega) ((cC_x (by decide)).trans h35) 0 rfl (by decide) (by decide) ((cC_x (by decide)).trans exW_k) (fun j hj => cC_exW hj) dL_sail_8 (fun H locs hW => ?_)
    refine lv_goto (tgt := 18) hx hb dL_sail_9 (by decide) ?_
    refine lv_iconst (v := 0) hx hb dL_sail_18 (by decide) ?_
    exact ze_i S hW hr hlk () (by rw [hk] <;> rfl) (by rw [hk]; rfl) (Nat.le_of_ble_eq_true rfl) (Nat.le_of_ble_eq_true rfl) dL_sail_19
set_option maxHeartbeats 4000000 in
set_option maxRecDepth 100000 in
theorem cL_layer_ok (l : Launch) (D : va_G) (n : Nat) (ad cy sa : Nat → Nat) (sz : Nat) (hn : 36 ≤ n) (al : Nat → Nat → Int32) (ex : Nat → va_E) (f : Nat → Int64) (h35 : ex 35 = .inl (cy 4, 1, .inr (.inl f))) (x : Int32) (y : Int32)  (hfl : l.stackTraces = false) : Met l yL_layer wsL_layer ({ frames := 7, cells := 1, slots := 6, locals := 132 }) (PW D n ad cy sa sz (cC cy ad al ex) [.ref (ad 0), .int x, .int y, .ref (ad 35)]) (QDi D n ad sz (nI (k_layer al x y)) (cC cy ad al (exW cy ex (if k_layer al x y = 0 then vp_updL f 0 ((v_layer al x y).toInt64) else f)))) 1 6 (Acc n ad sz) := by
  refine zs_law (cc := cL_layer) (maxL := 5) (ret := some .int) (own := RL) (by decide) rfl rfl (Nat.le_of_ble_eq_true rfl) ?_
  intro p e s m args below meth c ls S hT hE hW hr hlk hsz hav hl
  subst hsz
  have hx := S.1
  have hb := S.2.1
  have hown := S.2.2.2.1
  have hts := S.2.2.2.2
  have hl : lv_has ls 5 [(0, .ref (ad 0)), (1, .int x), (2, .int y), (3, .ref (ad 35))] := hl
  have q13 := hts (.classLink RL 13 "java/lang/IndexOutOfBoundsException") (by decide +kernel)
  refine lv_aload_n hx hb dL_layer_0 rfl (lv_at hl 3 rfl) ?_
  refine lv_iconst (v := 0) hx hb dL_layer_1 (by decide) ?_
  refine lv_aload_n hx hb dL_layer_2 rfl (lv_at hl 0 rfl) ?_
  refine lv_iload_n hx hb dL_layer_3 rfl (lv_at hl 1 rfl) ?_
  refine lv_iload_n hx hb dL_layer_4 rfl (lv_at hl 2 rfl) ?_
  refine z_xVi (As := [.int x, .int y]) (rest := [.int 0, .ref (ad 35)]) (k := 0) S hE hW (cX3_layer_ok l D n ad cy sa s.heap.size (by omega) al ex x y  hfl) (cwV 2 hts gL_layer_X3_layer rfl rfl rfl (by decide +kernel) ⟨Nat.le_of_ble_eq_true rfl, Nat.le_of_ble_eq_true rfl⟩) (by omega) cC_0 rfl rfl rfl hl.1 rfl (Nat.le_of_ble_eq_true rfl) dL_layer_5 ⟨Nat.le_of_ble_eq_true rfl, Nat.le_of_ble_eq_true rfl⟩ (fun E x9 q9 H locs hbad hW hx9 hv9 hc9 => ?_) (fun r _ H locs hp hW => ?_)
  · rcases hbad with ⟨rfl, hk⟩ | ⟨rfl, hk⟩
    · refine vx_catch (name := "java/lang/IndexOutOfBoundsException") hown [] ⟨0, 10, 13, 13⟩ [] hT (fun z hz => by cases hz) (by decide) (by show ¬ (13 : Nat) = 0; decide) q13 (va_Nw.use rfl (hE.1.2.1.at 18 rfl)) hx9 hv9 hc9 ?_
      refine lv_astore (lv' := [(4, .ref q9), (0, .ref (ad 0)), (1, .int x), (2, .int y), (3, .ref (ad 35))]) hx hb dL_layer_13 hl (by decide) rfl (fun ls hl => ?_)
      refine lv_iconst (v := 1) hx hb dL_layer_15 (by decide) ?_
      exact ze_i S hW hr hlk () (by rw [hk]; exact congrArg (cC cy ad al) (exW_id h35).symm) (by rw [hk]; rfl) (Nat.le_of_ble_eq_true rfl) (Nat.le_of_ble_eq_true rfl) dL_layer_16
    · exact absurd hk (by unfold k_layer; (repeat' split) <;> decide)
  · obtain ⟨hk, rfl⟩ := hp
    refine lv_i2l (v := (v_layer al x y).toInt64) hx hb dL_layer_8 rfl ?_
    refine z_lst (ce' := cC cy ad al (exW cy ex (vp_updL f 0 ((v_layer al x y).toInt64)))) S hE hW (by omega) ((cC_x (by decide)).trans h35) 0 rfl (by decide) (by decide) ((cC_x (by decide)).trans exW_k) (fun j hj => cC_exW hj) dL_layer_9 (fun H locs hW => ?_)
    refine lv_goto (tgt := 17) hx hb dL_layer_10 (by decide) ?_
    refine lv_iconst (v := 0) hx hb dL_layer_17 (by decide) ?_
    exact ze_i S hW hr hlk () (by rw [hk] <;> rfl) (by rw [hk]; rfl) (Nat.le_of_ble_eq_true rfl) (Nat.le_of_ble_eq_true rfl) dL_layer_18
set_option maxHeartbeats 4000000 in
set_option maxRecDepth 100000 in
theorem cL_told_ok (l : Launch) (D : va_G) (n : Nat) (ad cy sa : Nat → Nat) (sz : Nat) (hn : 36 ≤ n) (al : Nat → Nat → Int32) (ex : Nat → va_E) (f : Nat → Int64) (h35 : ex 35 = .inl (cy 4, 1, .inr (.inl f))) (x : Int32) (y : Int32) (N : Nat) (hN : al 0 4 = nI N) (hN6 : N ≤ 6) (hab : abOK al) (hfl : l.stackTraces = false) : Met l yL_told wsL_told ({ frames := 7, cells := 1, slots := 6, locals := 133 }) (PW D n ad cy sa sz (cC cy ad al ex) [.ref (ad 0), .int x, .int y, .ref (ad 35)]) (QDi D n ad sz (nI (k_told al x y)) (cC cy ad al (exW cy ex (if k_told al x y = 0 then vp_updL f 0 ((v_told al x y).toInt64) else f)))) 1 6 (Acc n ad sz) := by
  refine zs_law (cc := cL_told) (maxL := 5) (ret := some .int) (own := RL) (by decide) rfl rfl (Nat.le_of_ble_eq_true rfl) ?_
  intro p e s m args below meth c ls S hT hE hW hr hlk hsz hav hl
  subst hsz
  have hx := S.1
  have hb := S.2.1
  have hown := S.2.2.2.1
  have hts := S.2.2.2.2
  have hl : lv_has ls 5 [(0, .ref (ad 0)), (1, .int x), (2, .int y), (3, .ref (ad 35))] := hl
  have q13 := hts (.classLink RL 13 "java/lang/IndexOutOfBoundsException") (by decide +kernel)
  refine lv_aload_n hx hb dL_told_0 rfl (lv_at hl 3 rfl) ?_
  refine lv_iconst (v := 0) hx hb dL_told_1 (by decide) ?_
  refine lv_aload_n hx hb dL_told_2 rfl (lv_at hl 0 rfl) ?_
  refine lv_iload_n hx hb dL_told_3 rfl (lv_at hl 1 rfl) ?_
  refine lv_iload_n hx hb dL_told_4 rfl (lv_at hl 2 rfl) ?_
  refine z_xVi (As := [.int x, .int y]) (rest := [.int 0, .ref (ad 35)]) (k := 0) S hE hW (cX3_told_ok l D n ad cy sa s.heap.size (by omega) al ex x y N hN hN6 hab hfl) (cwV 2 hts gL_told_X3_told rfl rfl rfl (by decide +kernel) ⟨Nat.le_of_ble_eq_true rfl, Nat.le_of_ble_eq_true rfl⟩) (by omega) cC_0 rfl rfl rfl hl.1 rfl (Nat.le_of_ble_eq_true rfl) dL_told_5 ⟨Nat.le_of_ble_eq_true rfl, Nat.le_of_ble_eq_true rfl⟩ (fun E x9 q9 H locs hbad hW hx9 hv9 hc9 => ?_) (fun r _ H locs hp hW => ?_)
  · rcases hbad with ⟨rfl, hk⟩ | ⟨rfl, hk⟩
    · refine vx_catch (name := "java/lang/IndexOutOfBoundsException") hown [] ⟨0, 10, 13, 13⟩ [] hT (fun z hz => by cases hz) (by decide) (by show ¬ (13 : Nat) = 0; decide) q13 (va_Nw.use rfl (hE.1.2.1.at 18 rfl)) hx9 hv9 hc9 ?_
      refine lv_astore (lv' := [(4, .ref q9), (0, .ref (ad 0)), (1, .int x), (2, .int y), (3, .ref (ad 35))]) hx hb dL_told_13 hl (by decide) rfl (fun ls hl => ?_)
      refine lv_iconst (v := 1) hx hb dL_told_15 (by decide) ?_
      exact ze_i S hW hr hlk () (by rw [hk]; exact congrArg (cC cy ad al) (exW_id h35).symm) (by rw [hk]; rfl) (Nat.le_of_ble_eq_true rfl) (Nat.le_of_ble_eq_true rfl) dL_told_16
    · exact absurd hk (by unfold k_told; (repeat' split) <;> decide)
  · obtain ⟨hk, rfl⟩ := hp
    refine lv_i2l (v := (v_told al x y).toInt64) hx hb dL_told_8 rfl ?_
    refine z_lst (ce' := cC cy ad al (exW cy ex (vp_updL f 0 ((v_told al x y).toInt64)))) S hE hW (by omega) ((cC_x (by decide)).trans h35) 0 rfl (by decide) (by decide) ((cC_x (by decide)).trans exW_k) (fun j hj => cC_exW hj) dL_told_9 (fun H locs hW => ?_)
    refine lv_goto (tgt := 17) hx hb dL_told_10 (by decide) ?_
    refine lv_iconst (v := 0) hx hb dL_told_17 (by decide) ?_
    exact ze_i S hW hr hlk () (by rw [hk] <;> rfl) (by rw [hk]; rfl) (Nat.le_of_ble_eq_true rfl) (Nat.le_of_ble_eq_true rfl) dL_told_18
set_option maxHeartbeats 4000000 in
set_option maxRecDepth 100000 in
theorem cL_boat_ok (l : Launch) (D : va_G) (n : Nat) (ad cy sa : Nat → Nat) (sz : Nat) (hn : 36 ≤ n) (al : Nat → Nat → Int32) (ex : Nat → va_E) (f : Nat → Int64) (h35 : ex 35 = .inl (cy 4, 1, .inr (.inl f))) (x : Int32) (y : Int32) (B : Nat) (hB : al 0 6 = nI B) (hB4 : B ≤ 4) (hfl : l.stackTraces = false) : Met l yL_boat wsL_boat ({ frames := 7, cells := 1, slots := 6, locals := 144 }) (PW D n ad cy sa sz (cC cy ad al ex) [.ref (ad 0), .int x, .int y, .ref (ad 35)]) (QDi D n ad sz (nI (k_boat al x y)) (cC cy ad al (exW cy ex (if k_boat al x y = 0 then vp_updL f 0 ((v_boat al x y).toInt64) else f)))) 1 6 (Acc n ad sz) := by
  refine zs_law (cc := cL_boat) (maxL := 5) (ret := some .int) (own := RL) (by decide) rfl rfl (Nat.le_of_ble_eq_true rfl) ?_
  intro p e s m args below meth c ls S hT hE hW hr hlk hsz hav hl
  subst hsz
  have hx := S.1
  have hb := S.2.1
  have hown := S.2.2.2.1
  have hts := S.2.2.2.2
  have hl : lv_has ls 5 [(0, .ref (ad 0)), (1, .int x), (2, .int y), (3, .ref (ad 35))] := hl
  have q13 := hts (.classLink RL 13 "java/lang/IndexOutOfBoundsException") (by decide +kernel)
  refine lv_aload_n hx hb dL_boat_0 rfl (lv_at hl 3 rfl) ?_
  refine lv_iconst (v := 0) hx hb dL_boat_1 (by decide) ?_
  refine lv_aload_n hx hb dL_boat_2 rfl (lv_at hl 0 rfl) ?_
  refine lv_iload_n hx hb dL_boat_3 rfl (lv_at hl 1 rfl) ?_
  refine lv_iload_n hx hb dL_boat_4 rfl (lv_at hl 2 rfl) ?_
  refine z_xVi (As := [.int x, .int y]) (rest := [.int 0, .ref (ad 35)]) (k := 0) S hE hW (cX3_boat_ok l D n ad cy sa s.heap.size (by omega) al ex x y B hB hB4 hfl) (cwV 2 hts gL_boat_X3_boat rfl rfl rfl (by decide +kernel) ⟨Nat.le_of_ble_eq_true rfl, Nat.le_of_ble_eq_true rfl⟩) (by omega) cC_0 rfl rfl rfl hl.1 rfl (Nat.le_of_ble_eq_true rfl) dL_boat_5 ⟨Nat.le_of_ble_eq_true rfl, Nat.le_of_ble_eq_true rfl⟩ (fun E x9 q9 H locs hbad hW hx9 hv9 hc9 => ?_) (fun r _ H locs hp hW => ?_)
  · rcases hbad with ⟨rfl, hk⟩ | ⟨rfl, hk⟩
    · refine vx_catch (name := "java/lang/IndexOutOfBoundsException") hown [] ⟨0, 10, 13, 13⟩ [] hT (fun z hz => by cases hz) (by decide) (by show ¬ (13 : Nat) = 0; decide) q13 (va_Nw.use rfl (hE.1.2.1.at 18 rfl)) hx9 hv9 hc9 ?_
      refine lv_astore (lv' := [(4, .ref q9), (0, .ref (ad 0)), (1, .int x), (2, .int y), (3, .ref (ad 35))]) hx hb dL_boat_13 hl (by decide) rfl (fun ls hl => ?_)
      refine lv_iconst (v := 1) hx hb dL_boat_15 (by decide) ?_
      exact ze_i S hW hr hlk () (by rw [hk]; exact congrArg (cC cy ad al) (exW_id h35).symm) (by rw [hk]; rfl) (Nat.le_of_ble_eq_true rfl) (Nat.le_of_ble_eq_true rfl) dL_boat_16
    · exact absurd hk (by unfold k_boat; (repeat' split) <;> decide)
  · obtain ⟨hk, rfl⟩ := hp
    refine lv_i2l (v := (v_boat al x y).toInt64) hx hb dL_boat_8 rfl ?_
    refine z_lst (ce' := cC cy ad al (exW cy ex (vp_updL f 0 ((v_boat al x y).toInt64)))) S hE hW (by omega) ((cC_x (by decide)).trans h35) 0 rfl (by decide) (by decide) ((cC_x (by decide)).trans exW_k) (fun j hj => cC_exW hj) dL_boat_9 (fun H locs hW => ?_)
    refine lv_goto (tgt := 17) hx hb dL_boat_10 (by decide) ?_
    refine lv_iconst (v := 0) hx hb dL_boat_17 (by decide) ?_
    exact ze_i S hW hr hlk () (by rw [hk] <;> rfl) (by rw [hk]; rfl) (Nat.le_of_ble_eq_true rfl) (Nat.le_of_ble_eq_true rfl) dL_boat_18
set_option maxHeartbeats 4000000 in
set_option maxRecDepth 100000 in
theorem cL_beach_ok (l : Launch) (D : va_G) (n : Nat) (ad cy sa : Nat → Nat) (sz : Nat) (hn : 36 ≤ n) (al : Nat → Nat → Int32) (ex : Nat → va_E) (f : Nat → Int64) (h35 : ex 35 = .inl (cy 4, 1, .inr (.inl f))) (x : Int32)  (hfl : l.stackTraces = false) : Met l yL_beach wsL_beach ({ frames := 7, cells := 1, slots := 6, locals := 131 }) (PW D n ad cy sa sz (cC cy ad al ex) [.ref (ad 0), .int x, .ref (ad 35)]) (QDi D n ad sz (nI (k_beach al x)) (cC cy ad al (exW cy ex (if k_beach al x = 0 then vp_updL f 0 ((v_beach al x).toInt64) else f)))) 1 6 (Acc n ad sz) := by
  refine zs_law (cc := cL_beach) (maxL := 4) (ret := some .int) (own := RL) (by decide) rfl rfl (Nat.le_of_ble_eq_true rfl) ?_
  intro p e s m args below meth c ls S hT hE hW hr hlk hsz hav hl
  subst hsz
  have hx := S.1
  have hb := S.2.1
  have hown := S.2.2.2.1
  have hts := S.2.2.2.2
  have hl : lv_has ls 4 [(0, .ref (ad 0)), (1, .int x), (2, .ref (ad 35))] := hl
  have q13 := hts (.classLink RL 13 "java/lang/IndexOutOfBoundsException") (by decide +kernel)
  refine lv_aload_n hx hb dL_beach_0 rfl (lv_at hl 2 rfl) ?_
  refine lv_iconst (v := 0) hx hb dL_beach_1 (by decide) ?_
  refine lv_aload_n hx hb dL_beach_2 rfl (lv_at hl 0 rfl) ?_
  refine lv_iload_n hx hb dL_beach_3 rfl (lv_at hl 1 rfl) ?_
  refine z_xVi (As := [.int x]) (rest := [.int 0, .ref (ad 35)]) (k := 0) S hE hW (cX3_beach_ok l D n ad cy sa s.heap.size (by omega) al ex x  hfl) (cwV 1 hts gL_beach_X3_beach rfl rfl rfl (by decide +kernel) ⟨Nat.le_of_ble_eq_true rfl, Nat.le_of_ble_eq_true rfl⟩) (by omega) cC_0 rfl rfl rfl hl.1 rfl (Nat.le_of_ble_eq_true rfl) dL_beach_4 ⟨Nat.le_of_ble_eq_true rfl, Nat.le_of_ble_eq_true rfl⟩ (fun E x9 q9 H locs hbad hW hx9 hv9 hc9 => ?_) (fun r _ H locs hp hW => ?_)
  · rcases hbad with ⟨rfl, hk⟩ | ⟨rfl, hk⟩
    · refine vx_catch (name := "java/lang/IndexOutOfBoundsException") hown [] ⟨0, 9, 12, 13⟩ [] hT (fun z hz => by cases hz) (by decide) (by show ¬ (13 : Nat) = 0; decide) q13 (va_Nw.use rfl (hE.1.2.1.at 18 rfl)) hx9 hv9 hc9 ?_
      refine lv_astore_n (lv' := [(3, .ref q9), (0, .ref (ad 0)), (1, .int x), (2, .ref (ad 35))]) hx hb dL_beach_12 rfl hl (by decide) rfl (fun ls hl => ?_)
      refine lv_iconst (v := 1) hx hb dL_beach_13 (by decide) ?_
      exact ze_i S hW hr hlk () (by rw [hk]; exact congrArg (cC cy ad al) (exW_id h35).symm) (by rw [hk]; rfl) (Nat.le_of_ble_eq_true rfl) (Nat.le_of_ble_eq_true rfl) dL_beach_14
    · exact absurd hk (by unfold k_beach; (repeat' split) <;> decide)
  · obtain ⟨hk, rfl⟩ := hp
    refine lv_i2l (v := (v_beach al x).toInt64) hx hb dL_beach_7 rfl ?_
    refine z_lst (ce' := cC cy ad al (exW cy ex (vp_updL f 0 ((v_beach al x).toInt64)))) S hE hW (by omega) ((cC_x (by decide)).trans h35) 0 rfl (by decide) (by decide) ((cC_x (by decide)).trans exW_k) (fun j hj => cC_exW hj) dL_beach_8 (fun H locs hW => ?_)
    refine lv_goto (tgt := 15) hx hb dL_beach_9 (by decide) ?_
    refine lv_iconst (v := 0) hx hb dL_beach_15 (by decide) ?_
    exact ze_i S hW hr hlk () (by rw [hk] <;> rfl) (by rw [hk]; rfl) (Nat.le_of_ble_eq_true rfl) (Nat.le_of_ble_eq_true rfl) dL_beach_16
set_option maxHeartbeats 4000000 in
set_option maxRecDepth 100000 in
theorem cL_count_ok (l : Launch) (D : va_G) (n : Nat) (ad cy sa : Nat → Nat) (sz : Nat) (hn : 36 ≤ n) (al : Nat → Nat → Int32) (ex : Nat → va_E) (f : Nat → Int64) (h35 : ex 35 = .inl (cy 4, 1, .inr (.inl f))) (x : Int32) (N : Nat) (hN : al 0 4 = nI N) (hN6 : N ≤ 6) (h : Nat) (hh : al 0 8 = nI h) (hh3 : h < 2 ^ 30) (hfl : l.stackTraces = false) : Met l yL_count wsL_count ({ frames := 7, cells := 1, slots := 6, locals := 131 }) (PW D n ad cy sa sz (cC cy ad al ex) [.ref (ad 0), .int x, .ref (ad 35)]) (QDi D n ad sz (nI (k_count al x)) (cC cy ad al (exW cy ex (if k_count al x = 0 then vp_updL f 0 ((v_count al x).toInt64) else f)))) 1 6 (Acc n ad sz) := by
  refine zs_law (cc := cL_count) (maxL := 4) (ret := some .int) (own := RL) (by decide) rfl rfl (Nat.le_of_ble_eq_true rfl) ?_
  intro p e s m args below meth c ls S hT hE hW hr hlk hsz hav hl
  subst hsz
  have hx := S.1
  have hb := S.2.1
  have hown := S.2.2.2.1
  have hts := S.2.2.2.2
  have hl : lv_has ls 4 [(0, .ref (ad 0)), (1, .int x), (2, .ref (ad 35))] := hl
  have q13 := hts (.classLink RL 13 "java/lang/IndexOutOfBoundsException") (by decide +kernel)
  refine lv_aload_n hx hb dL_count_0 rfl (lv_at hl 2 rfl) ?_
  refine lv_iconst (v := 0) hx hb dL_count_1 (by decide) ?_
  refine lv_aload_n hx hb dL_count_2 rfl (lv_at hl 0 rfl) ?_
  refine lv_iload_n hx hb dL_count_3 rfl (lv_at hl 1 rfl) ?_
  refine z_xVi (As := [.int x]) (rest := [.int 0, .ref (ad 35)]) (k := 0) S hE hW (cX3_count_ok l D n ad cy sa s.heap.size (by omega) al ex x N hN hN6 h hh hh3 hfl) (cwV 1 hts gL_count_X3_count rfl rfl rfl (by decide +kernel) ⟨Nat.le_of_ble_eq_true rfl, Nat.le_of_ble_eq_true rfl⟩) (by omega) cC_0 rfl rfl rfl hl.1 rfl (Nat.le_of_ble_eq_true rfl) dL_count_4 ⟨Nat.le_of_ble_eq_true rfl, Nat.le_of_ble_eq_true rfl⟩ (fun E x9 q9 H locs hbad hW hx9 hv9 hc9 => ?_) (fun r _ H locs hp hW => ?_)
  · rcases hbad with ⟨rfl, hk⟩ | ⟨rfl, hk⟩
    · refine vx_catch (name := "java/lang/IndexOutOfBoundsException") hown [] ⟨0, 9, 12, 13⟩ [] hT (fun z hz => by cases hz) (by decide) (by show ¬ (13 : Nat) = 0; decide) q13 (va_Nw.use rfl (hE.1.2.1.at 18 rfl)) hx9 hv9 hc9 ?_
      refine lv_astore_n (lv' := [(3, .ref q9), (0, .ref (ad 0)), (1, .int x), (2, .ref (ad 35))]) hx hb dL_count_12 rfl hl (by decide) rfl (fun ls hl => ?_)
      refine lv_iconst (v := 1) hx hb dL_count_13 (by decide) ?_
      exact ze_i S hW hr hlk () (by rw [hk]; exact congrArg (cC cy ad al) (exW_id h35).symm) (by rw [hk]; rfl) (Nat.le_of_ble_eq_true rfl) (Nat.le_of_ble_eq_true rfl) dL_count_14
    · exact absurd hk (by unfold k_count; (repeat' split) <;> decide)
  · obtain ⟨hk, rfl⟩ := hp
    refine lv_i2l (v := (v_count al x).toInt64) hx hb dL_count_7 rfl ?_
    refine z_lst (ce' := cC cy ad al (exW cy ex (vp_updL f 0 ((v_count al x).toInt64)))) S hE hW (by omega) ((cC_x (by decide)).trans h35) 0 rfl (by decide) (by decide) ((cC_x (by decide)).trans exW_k) (fun j hj => cC_exW hj) dL_count_8 (fun H locs hW => ?_)
    refine lv_goto (tgt := 15) hx hb dL_count_9 (by decide) ?_
    refine lv_iconst (v := 0) hx hb dL_count_15 (by decide) ?_
    exact ze_i S hW hr hlk () (by rw [hk] <;> rfl) (by rw [hk]; rfl) (Nat.le_of_ble_eq_true rfl) (Nat.le_of_ble_eq_true rfl) dL_count_16
set_option maxHeartbeats 4000000 in
set_option maxRecDepth 100000 in
theorem cL_pass_ok (l : Launch) (D : va_G) (n : Nat) (ad cy sa : Nat → Nat) (sz : Nat) (hn : 36 ≤ n) (al : Nat → Nat → Int32) (ex : Nat → va_E) (f : Nat → Int64) (h35 : ex 35 = .inl (cy 4, 1, .inr (.inl f))) (x : Int32) (N : Nat) (hN : al 0 4 = nI N) (hN6 : N ≤ 6) (h : Nat) (hh : al 0 8 = nI h) (hh3 : h < 2 ^ 29) (hab : abOK al) (hfl : l.stackTraces = false) : Met l yL_pass wsL_pass ({ frames := 7, cells := 1, slots := 6, locals := 149 }) (PW D n ad cy sa sz (cC cy ad al ex) [.ref (ad 0), .int x, .ref (ad 35)]) (QDi D n ad sz (nI (k_pass al x)) (cC cy ad (if k_pass al x = 0 then u_pass al x else al) (exW cy ex (if k_pass al x = 0 then vp_updL f 0 ((v_pass al x).toInt64) else f)))) 1 6 (Acc n ad sz) := by
  refine zs_law (cc := cL_pass) (maxL := 4) (ret := some .int) (own := RL) (by decide) rfl rfl (Nat.le_of_ble_eq_true rfl) ?_
  intro p e s m args below meth c ls S hT hE hW hr hlk hsz hav hl
  subst hsz
  have hx := S.1
  have hb := S.2.1
  have hown := S.2.2.2.1
  have hts := S.2.2.2.2
  have hl : lv_has ls 4 [(0, .ref (ad 0)), (1, .int x), (2, .ref (ad 35))] := hl
  have q15 := hts (.classLink RL 15 "java/lang/IllegalArgumentException") (by decide +kernel)
  refine lv_aload_n hx hb dL_pass_0 rfl (lv_at hl 2 rfl) ?_
  refine lv_iconst (v := 0) hx hb dL_pass_1 (by decide) ?_
  refine lv_aload_n hx hb dL_pass_2 rfl (lv_at hl 0 rfl) ?_
  refine lv_iload_n hx hb dL_pass_3 rfl (lv_at hl 1 rfl) ?_
  refine z_xVi (As := [.int x]) (rest := [.int 0, .ref (ad 35)]) (k := 0) S hE hW (cX3_pass_ok l D n ad cy sa s.heap.size (by omega) al ex x N hN hN6 h hh hh3 hab hfl) (cwV 1 hts gL_pass_X3_pass rfl rfl rfl (by decide +kernel) ⟨Nat.le_of_ble_eq_true rfl, Nat.le_of_ble_eq_true rfl⟩) (by omega) cC_0 rfl rfl rfl hl.1 rfl (Nat.le_of_ble_eq_true rfl) dL_pass_4 ⟨Nat.le_of_ble_eq_true rfl, Nat.le_of_ble_eq_true rfl⟩ (fun E x9 q9 H locs hbad hW hx9 hv9 hc9 => ?_) (fun r _ H locs hp hW => ?_)
  · rcases hbad with ⟨rfl, hk⟩ | ⟨rfl, hk⟩
    · refine vx_catch (name := "java/lang/IllegalArgumentException") hown [] ⟨0, 9, 12, 15⟩ [] hT (fun z hz => by cases hz) (by decide) (by show ¬ (15 : Nat) = 0; decide) q15 (va_Nw.use rfl (hE.1.2.1.at 19 rfl)) hx9 hv9 hc9 ?_
      refine lv_astore_n (lv' := [(3, .ref q9), (0, .ref (ad 0)), (1, .int x), (2, .ref (ad 35))]) hx hb dL_pass_12 rfl hl (by decide) rfl (fun ls hl => ?_)
      refine lv_iconst (v := 1) hx hb dL_pass_13 (by decide) ?_
      exact ze_i S hW hr hlk () (by rw [hk]; exact congrArg (cC cy ad al) (exW_id h35).symm) (by rw [hk]; rfl) (Nat.le_of_ble_eq_true rfl) (Nat.le_of_ble_eq_true rfl) dL_pass_14
    · exact absurd hk (by unfold k_pass; (repeat' split) <;> decide)
  · obtain ⟨hk, rfl⟩ := hp
    refine lv_i2l (v := (v_pass al x).toInt64) hx hb dL_pass_7 rfl ?_
    refine z_lst (ce' := cC cy ad (u_pass al x) (exW cy ex (vp_updL f 0 ((v_pass al x).toInt64)))) S hE hW (by omega) ((cC_x (by decide)).trans h35) 0 rfl (by decide) (by decide) ((cC_x (by decide)).trans exW_k) (fun j hj => cC_exW hj) dL_pass_8 (fun H locs hW => ?_)
    refine lv_goto (tgt := 15) hx hb dL_pass_9 (by decide) ?_
    refine lv_iconst (v := 0) hx hb dL_pass_15 (by decide) ?_
    exact ze_i S hW hr hlk () (by rw [hk] <;> rfl) (by rw [hk]; rfl) (Nat.le_of_ble_eq_true rfl) (Nat.le_of_ble_eq_true rfl) dL_pass_16
set_option maxHeartbeats 4000000 in
set_option maxRecDepth 100000 in
theorem cL_back_ok (l : Launch) (D : va_G) (n : Nat) (ad cy sa : Nat → Nat) (sz : Nat) (hn : 36 ≤ n) (al : Nat → Nat → Int32) (ex : Nat → va_E) (f : Nat → Int64) (h35 : ex 35 = .inl (cy 4, 1, .inr (.inl f))) (x : Int32) (N : Nat) (hN : al 0 4 = nI N) (hN6 : N ≤ 6) (h : Nat) (hh : al 0 8 = nI h) (hh3 : h < 2 ^ 29) (hab : abOK al) (hfl : l.stackTraces = false) : Met l yL_back wsL_back ({ frames := 7, cells := 1, slots := 6, locals := 132 }) (PW D n ad cy sa sz (cC cy ad al ex) [.ref (ad 0), .int x, .ref (ad 35)]) (QDi D n ad sz (nI (k_back al x)) (cC cy ad (if k_back al x = 0 then u_back al x else al) (exW cy ex (if k_back al x = 0 then vp_updL f 0 ((v_back al x).toInt64) else f)))) 1 6 (Acc n ad sz) := by
  refine zs_law (cc := cL_back) (maxL := 4) (ret := some .int) (own := RL) (by decide) rfl rfl (Nat.le_of_ble_eq_true rfl) ?_
  intro p e s m args below meth c ls S hT hE hW hr hlk hsz hav hl
  subst hsz
  have hx := S.1
  have hb := S.2.1
  have hown := S.2.2.2.1
  have hts := S.2.2.2.2
  have hl : lv_has ls 4 [(0, .ref (ad 0)), (1, .int x), (2, .ref (ad 35))] := hl
  have q13 := hts (.classLink RL 13 "java/lang/IndexOutOfBoundsException") (by decide +kernel)
  refine lv_aload_n hx hb dL_back_0 rfl (lv_at hl 2 rfl) ?_
  refine lv_iconst (v := 0) hx hb dL_back_1 (by decide) ?_
  refine lv_aload_n hx hb dL_back_2 rfl (lv_at hl 0 rfl) ?_
  refine lv_iload_n hx hb dL_back_3 rfl (lv_at hl 1 rfl) ?_
  refine z_xVi (As := [.int x]) (rest := [.int 0, .ref (ad 35)]) (k := 0) S hE hW (cX3_back_ok l D n ad cy sa s.heap.size (by omega) al ex x N hN hN6 h hh hh3 hab hfl) (cwV 1 hts gL_back_X3_back rfl rfl rfl (by decide +kernel) ⟨Nat.le_of_ble_eq_true rfl, Nat.le_of_ble_eq_true rfl⟩) (by omega) cC_0 rfl rfl rfl hl.1 rfl (Nat.le_of_ble_eq_true rfl) dL_back_4 ⟨Nat.le_of_ble_eq_true rfl, Nat.le_of_ble_eq_true rfl⟩ (fun E x9 q9 H locs hbad hW hx9 hv9 hc9 => ?_) (fun r _ H locs hp hW => ?_)
  · rcases hbad with ⟨rfl, hk⟩ | ⟨rfl, hk⟩
    · refine vx_catch (name := "java/lang/IndexOutOfBoundsException") hown [] ⟨0, 9, 12, 13⟩ [] hT (fun z hz => by cases hz) (by decide) (by show ¬ (13 : Nat) = 0; decide) q13 (va_Nw.use rfl (hE.1.2.1.at 18 rfl)) hx9 hv9 hc9 ?_
      refine lv_astore_n (lv' := [(3, .ref q9), (0, .ref (ad 0)), (1, .int x), (2, .ref (ad 35))]) hx hb dL_back_12 rfl hl (by decide) rfl (fun ls hl => ?_)
      refine lv_iconst (v := 1) hx hb dL_back_13 (by decide) ?_
      exact ze_i S hW hr hlk () (by rw [hk]; exact congrArg (cC cy ad al) (exW_id h35).symm) (by rw [hk]; rfl) (Nat.le_of_ble_eq_true rfl) (Nat.le_of_ble_eq_true rfl) dL_back_14
    · exact absurd hk (by unfold k_back; (repeat' split) <;> decide)
  · obtain ⟨hk, rfl⟩ := hp
    refine lv_i2l (v := (v_back al x).toInt64) hx hb dL_back_7 rfl ?_
    refine z_lst (ce' := cC cy ad (u_back al x) (exW cy ex (vp_updL f 0 ((v_back al x).toInt64)))) S hE hW (by omega) ((cC_x (by decide)).trans h35) 0 rfl (by decide) (by decide) ((cC_x (by decide)).trans exW_k) (fun j hj => cC_exW hj) dL_back_8 (fun H locs hW => ?_)
    refine lv_goto (tgt := 15) hx hb dL_back_9 (by decide) ?_
    refine lv_iconst (v := 0) hx hb dL_back_15 (by decide) ?_
    exact ze_i S hW hr hlk () (by rw [hk] <;> rfl) (by rw [hk]; rfl) (Nat.le_of_ble_eq_true rfl) (Nat.le_of_ble_eq_true rfl) dL_back_16
set_option maxHeartbeats 4000000 in
set_option maxRecDepth 100000 in
theorem cL_arrives_ok (l : Launch) (D : va_G) (n : Nat) (ad cy sa : Nat → Nat) (sz : Nat) (hn : 36 ≤ n) (al : Nat → Nat → Int32) (ex : Nat → va_E) (f : Nat → Int64) (h35 : ex 35 = .inl (cy 4, 1, .inr (.inl f))) (x : Int32) (N : Nat) (hN : al 0 4 = nI N) (hN6 : N ≤ 6) (h : Nat) (hh : al 0 8 = nI h) (hh3 : h < 2 ^ 29) (hab : abOK al) (hfl : l.stackTraces = false) : Met l yL_arrives wsL_arrives ({ frames := 7, cells := 1, slots := 6, locals := 133 }) (PW D n ad cy sa sz (cC cy ad al ex) [.ref (ad 0), .int x, .ref (ad 35)]) (QDi D n ad sz (nI (k_arrives al x)) (cC cy ad (if k_arrives al x = 0 then u_arrives al x else al) (exW cy ex (if k_arrives al x = 0 then vp_updL f 0 ((v_arrives al x).toInt64) else f)))) 1 6 (Acc n ad sz) := by
  refine zs_law (cc := cL_arrives) (maxL := 4) (ret := some .int) (own := RL) (by decide) rfl rfl (Nat.le_of_ble_eq_true rfl) ?_
  intro p e s m args below meth c ls S hT hE hW hr hlk hsz hav hl
  subst hsz
  have hx := S.1
  have hb := S.2.1
  have hown := S.2.2.2.1
  have hts := S.2.2.2.2
  have hl : lv_has ls 4 [(0, .ref (ad 0)), (1, .int x), (2, .ref (ad 35))] := hl
  have q13 := hts (.classLink RL 13 "java/lang/IndexOutOfBoundsException") (by decide +kernel)
  refine lv_aload_n hx hb dL_arrives_0 rfl (lv_at hl 2 rfl) ?_
  refine lv_iconst (v := 0) hx hb dL_arrives_1 (by decide) ?_
  refine lv_aload_n hx hb dL_arrives_2 rfl (lv_at hl 0 rfl) ?_
  refine lv_iload_n hx hb dL_arrives_3 rfl (lv_at hl 1 rfl) ?_
  refine z_xVi (As := [.int x]) (rest := [.int 0, .ref (ad 35)]) (k := 0) S hE hW (cX3_arrives_ok l D n ad cy sa s.heap.size (by omega) al ex x N hN hN6 h hh hh3 hab hfl) (cwV 1 hts gL_arrives_X3_arrives rfl rfl rfl (by decide +kernel) ⟨Nat.le_of_ble_eq_true rfl, Nat.le_of_ble_eq_true rfl⟩) (by omega) cC_0 rfl rfl rfl hl.1 rfl (Nat.le_of_ble_eq_true rfl) dL_arrives_4 ⟨Nat.le_of_ble_eq_true rfl, Nat.le_of_ble_eq_true rfl⟩ (fun E x9 q9 H locs hbad hW hx9 hv9 hc9 => ?_) (fun r _ H locs hp hW => ?_)
  · rcases hbad with ⟨rfl, hk⟩ | ⟨rfl, hk⟩
    · refine vx_catch (name := "java/lang/IndexOutOfBoundsException") hown [] ⟨0, 9, 12, 13⟩ [] hT (fun z hz => by cases hz) (by decide) (by show ¬ (13 : Nat) = 0; decide) q13 (va_Nw.use rfl (hE.1.2.1.at 18 rfl)) hx9 hv9 hc9 ?_
      refine lv_astore_n (lv' := [(3, .ref q9), (0, .ref (ad 0)), (1, .int x), (2, .ref (ad 35))]) hx hb dL_arrives_12 rfl hl (by decide) rfl (fun ls hl => ?_)
      refine lv_iconst (v := 1) hx hb dL_arrives_13 (by decide) ?_
      exact ze_i S hW hr hlk () (by rw [hk]; exact congrArg (cC cy ad al) (exW_id h35).symm) (by rw [hk]; rfl) (Nat.le_of_ble_eq_true rfl) (Nat.le_of_ble_eq_true rfl) dL_arrives_14
    · exact absurd hk (by unfold k_arrives; (repeat' split) <;> decide)
  · obtain ⟨hk, rfl⟩ := hp
    refine lv_i2l (v := (v_arrives al x).toInt64) hx hb dL_arrives_7 rfl ?_
    refine z_lst (ce' := cC cy ad (u_arrives al x) (exW cy ex (vp_updL f 0 ((v_arrives al x).toInt64)))) S hE hW (by omega) ((cC_x (by decide)).trans h35) 0 rfl (by decide) (by decide) ((cC_x (by decide)).trans exW_k) (fun j hj => cC_exW hj) dL_arrives_8 (fun H locs hW => ?_)
    refine lv_goto (tgt := 15) hx hb dL_arrives_9 (by decide) ?_
    refine lv_iconst (v := 0) hx hb dL_arrives_15 (by decide) ?_
    exact ze_i S hW hr hlk () (by rw [hk] <;> rfl) (by rw [hk]; rfl) (Nat.le_of_ble_eq_true rfl) (Nat.le_of_ble_eq_true rfl) dL_arrives_16
set_option maxHeartbeats 4000000 in
set_option maxRecDepth 100000 in
theorem cL_advise_ok (l : Launch) (D : va_G) (n : Nat) (ad cy sa : Nat → Nat) (sz : Nat) (hn : 36 ≤ n) (al : Nat → Nat → Int32) (ex : Nat → va_E) (f : Nat → Int64) (h35 : ex 35 = .inl (cy 4, 1, .inr (.inl f))) (x : Int32) (y : Int32) (B : Nat) (hB : al 0 6 = nI B) (hB4 : B ≤ 4) (hfl : l.stackTraces = false) : Met l yL_advise wsL_advise ({ frames := 7, cells := 1, slots := 6, locals := 136 }) (PW D n ad cy sa sz (cC cy ad al ex) [.ref (ad 0), .int x, .int y, .ref (ad 35)]) (QDi D n ad sz (nI (k_advise al x y)) (cC cy ad al (exW cy ex (if k_advise al x y = 0 then vp_updL f 0 ((v_advise al x y).toInt64) else f)))) 1 6 (Acc n ad sz) := by
  refine zs_law (cc := cL_advise) (maxL := 5) (ret := some .int) (own := RL) (by decide) rfl rfl (Nat.le_of_ble_eq_true rfl) ?_
  intro p e s m args below meth c ls S hT hE hW hr hlk hsz hav hl
  subst hsz
  have hx := S.1
  have hb := S.2.1
  have hown := S.2.2.2.1
  have hts := S.2.2.2.2
  have hl : lv_has ls 5 [(0, .ref (ad 0)), (1, .int x), (2, .int y), (3, .ref (ad 35))] := hl
  have q13 := hts (.classLink RL 13 "java/lang/IndexOutOfBoundsException") (by decide +kernel)
  refine lv_aload_n hx hb dL_advise_0 rfl (lv_at hl 3 rfl) ?_
  refine lv_iconst (v := 0) hx hb dL_advise_1 (by decide) ?_
  refine lv_aload_n hx hb dL_advise_2 rfl (lv_at hl 0 rfl) ?_
  refine lv_iload_n hx hb dL_advise_3 rfl (lv_at hl 1 rfl) ?_
  refine lv_iload_n hx hb dL_advise_4 rfl (lv_at hl 2 rfl) ?_
  refine z_xVi (As := [.int x, .int y]) (rest := [.int 0, .ref (ad 35)]) (k := 0) S hE hW (cX3_advise_ok l D n ad cy sa s.heap.size (by omega) al ex x y B hB hB4 hfl) (cwV 2 hts gL_advise_X3_advise rfl rfl rfl (by decide +kernel) ⟨Nat.le_of_ble_eq_true rfl, Nat.le_of_ble_eq_true rfl⟩) (by omega) cC_0 rfl rfl rfl hl.1 rfl (Nat.le_of_ble_eq_true rfl) dL_advise_5 ⟨Nat.le_of_ble_eq_true rfl, Nat.le_of_ble_eq_true rfl⟩ (fun E x9 q9 H locs hbad hW hx9 hv9 hc9 => ?_) (fun r _ H locs hp hW => ?_)
  · rcases hbad with ⟨rfl, hk⟩ | ⟨rfl, hk⟩
    · refine vx_catch (name := "java/lang/IndexOutOfBoundsException") hown [] ⟨0, 10, 13, 13⟩ [] hT (fun z hz => by cases hz) (by decide) (by show ¬ (13 : Nat) = 0; decide) q13 (va_Nw.use rfl (hE.1.2.1.at 18 rfl)) hx9 hv9 hc9 ?_
      refine lv_astore (lv' := [(4, .ref q9), (0, .ref (ad 0)), (1, .int x), (2, .int y), (3, .ref (ad 35))]) hx hb dL_advise_13 hl (by decide) rfl (fun ls hl => ?_)
      refine lv_iconst (v := 1) hx hb dL_advise_15 (by decide) ?_
      exact ze_i S hW hr hlk () (by rw [hk]; exact congrArg (cC cy ad al) (exW_id h35).symm) (by rw [hk]; rfl) (Nat.le_of_ble_eq_true rfl) (Nat.le_of_ble_eq_true rfl) dL_advise_16
    · exact absurd hk (by unfold k_advise; (repeat' split) <;> decide)
  · obtain ⟨hk, rfl⟩ := hp
    refine lv_i2l (v := (v_advise al x y).toInt64) hx hb dL_advise_8 rfl ?_
    refine z_lst (ce' := cC cy ad al (exW cy ex (vp_updL f 0 ((v_advise al x y).toInt64)))) S hE hW (by omega) ((cC_x (by decide)).trans h35) 0 rfl (by decide) (by decide) ((cC_x (by decide)).trans exW_k) (fun j hj => cC_exW hj) dL_advise_9 (fun H locs hW => ?_)
    refine lv_goto (tgt := 17) hx hb dL_advise_10 (by decide) ?_
    refine lv_iconst (v := 0) hx hb dL_advise_17 (by decide) ?_
    exact ze_i S hW hr hlk () (by rw [hk] <;> rfl) (by rw [hk]; rfl) (Nat.le_of_ble_eq_true rfl) (Nat.le_of_ble_eq_true rfl) dL_advise_18
set_option maxHeartbeats 4000000 in
set_option maxRecDepth 100000 in
theorem cL_foresee_ok (l : Launch) (D : va_G) (n : Nat) (ad cy sa : Nat → Nat) (sz : Nat) (hn : 36 ≤ n) (al : Nat → Nat → Int32) (ex : Nat → va_E) (f : Nat → Int64) (h35 : ex 35 = .inl (cy 4, 1, .inr (.inl f))) (x : Int32) (y : Int32) (N : Nat) (hN : al 0 4 = nI N) (hN6 : N ≤ 6) (h : Nat) (hh : al 0 8 = nI h) (hh3 : h < 2 ^ 29) (hab : abOK al) (hfl : l.stackTraces = false) : Met l yL_foresee wsL_foresee ({ frames := 7, cells := 1, slots := 6, locals := 151 }) (PW D n ad cy sa sz (cC cy ad al ex) [.ref (ad 0), .int x, .int y, .ref (ad 35)]) (QDi D n ad sz (nI (k_foresee al x y)) (cC cy ad (if k_foresee al x y = 0 then u_foresee al x y else al) (exW cy ex (if k_foresee al x y = 0 then vp_updL f 0 ((v_foresee al x y).toInt64) else f)))) 1 6 (Acc n ad sz) := by
  refine zs_law (cc := cL_foresee) (maxL := 5) (ret := some .int) (own := RL) (by decide) rfl rfl (Nat.le_of_ble_eq_true rfl) ?_
  intro p e s m args below meth c ls S hT hE hW hr hlk hsz hav hl
  subst hsz
  have hx := S.1
  have hb := S.2.1
  have hown := S.2.2.2.1
  have hts := S.2.2.2.2
  have hl : lv_has ls 5 [(0, .ref (ad 0)), (1, .int x), (2, .int y), (3, .ref (ad 35))] := hl
  have q15 := hts (.classLink RL 15 "java/lang/IllegalArgumentException") (by decide +kernel)
  have q13 := hts (.classLink RL 13 "java/lang/IndexOutOfBoundsException") (by decide +kernel)
  refine lv_aload_n hx hb dL_foresee_0 rfl (lv_at hl 3 rfl) ?_
  refine lv_iconst (v := 0) hx hb dL_foresee_1 (by decide) ?_
  refine lv_aload_n hx hb dL_foresee_2 rfl (lv_at hl 0 rfl) ?_
  refine lv_iload_n hx hb dL_foresee_3 rfl (lv_at hl 1 rfl) ?_
  refine lv_iload_n hx hb dL_foresee_4 rfl (lv_at hl 2 rfl) ?_
  refine z_xVi (As := [.int x, .int y]) (rest := [.int 0, .ref (ad 35)]) (k := 0) S hE hW (cX3_foresee_ok l D n ad cy sa s.heap.size (by omega) al ex x y N hN hN6 h hh hh3 hab hfl) (cwV 2 hts gL_foresee_X3_foresee rfl rfl rfl (by decide +kernel) ⟨Nat.le_of_ble_eq_true rfl, Nat.le_of_ble_eq_true rfl⟩) (by omega) cC_0 rfl rfl rfl hl.1 rfl (Nat.le_of_ble_eq_true rfl) dL_foresee_5 ⟨Nat.le_of_ble_eq_true rfl, Nat.le_of_ble_eq_true rfl⟩ (fun E x9 q9 H locs hbad hW hx9 hv9 hc9 => ?_) (fun r _ H locs hp hW => ?_)
  · rcases hbad with ⟨rfl, hk⟩ | ⟨rfl, hk⟩
    · refine vx_catch (name := "java/lang/IllegalArgumentException") hown [] ⟨0, 10, 13, 15⟩ [⟨0, 10, 17, 13⟩] hT (fun z hz => by cases hz) (by decide) (by show ¬ (15 : Nat) = 0; decide) q15 (va_Nw.use rfl (hE.1.2.1.at 19 rfl)) hx9 hv9 hc9 ?_
      refine lv_astore (lv' := [(4, .ref q9), (0, .ref (ad 0)), (1, .int x), (2, .int y), (3, .ref (ad 35))]) hx hb dL_foresee_13 hl (by decide) rfl (fun ls hl => ?_)
      refine lv_iconst (v := 1) hx hb dL_foresee_15 (by decide) ?_
      exact ze_i S hW hr hlk () (by rw [hk]; exact congrArg (cC cy ad al) (exW_id h35).symm) (by rw [hk]; rfl) (Nat.le_of_ble_eq_true rfl) (Nat.le_of_ble_eq_true rfl) dL_foresee_16
    · refine vx_catch (name := "java/lang/IndexOutOfBoundsException") hown [⟨0, 10, 13, 15⟩] ⟨0, 10, 17, 13⟩ [] hT (fun z hz => by cases hz with | head => exact Or.inr ⟨(by show ¬ (15 : Nat) = 0; decide), "java/lang/IllegalArgumentException", q15, hE.1.2.2.1.2.2 ("java/lang/IndexOutOfBoundsException", "java/lang/IllegalArgumentException") (by decide)⟩ | tail _ hz => cases hz) (by decide) (by show ¬ (13 : Nat) = 0; decide) q13 (va_Nw.use rfl (hE.1.2.1.at 18 rfl)) hx9 hv9 hc9 ?_
      refine lv_astore (lv' := [(4, .ref q9), (0, .ref (ad 0)), (1, .int x), (2, .int y), (3, .ref (ad 35))]) hx hb dL_foresee_17 hl (by decide) rfl (fun ls hl => ?_)
      refine lv_iconst (v := 2) hx hb dL_foresee_19 (by decide) ?_
      exact ze_i S hW hr hlk () (by rw [hk]; exact congrArg (cC cy ad al) (exW_id h35).symm) (by rw [hk]; rfl) (Nat.le_of_ble_eq_true rfl) (Nat.le_of_ble_eq_true rfl) dL_foresee_20
  · obtain ⟨hk, rfl⟩ := hp
    refine lv_i2l (v := (v_foresee al x y).toInt64) hx hb dL_foresee_8 rfl ?_
    refine z_lst (ce' := cC cy ad (u_foresee al x y) (exW cy ex (vp_updL f 0 ((v_foresee al x y).toInt64)))) S hE hW (by omega) ((cC_x (by decide)).trans h35) 0 rfl (by decide) (by decide) ((cC_x (by decide)).trans exW_k) (fun j hj => cC_exW hj) dL_foresee_9 (fun H locs hW => ?_)
    refine lv_goto (tgt := 21) hx hb dL_foresee_10 (by decide) ?_
    refine lv_iconst (v := 0) hx hb dL_foresee_21 (by decide) ?_
    exact ze_i S hW hr hlk () (by rw [hk] <;> rfl) (by rw [hk]; rfl) (Nat.le_of_ble_eq_true rfl) (Nat.le_of_ble_eq_true rfl) dL_foresee_22
