/-! methods of numbers alone -/
set_option maxHeartbeats 4000000 in
set_option maxRecDepth 100000 in
theorem cX3_isWithin_ok (l : Launch) (x a b : Int32) : Met l yX3_isWithin wsX3_isWithin ({ frames := 0, cells := 0, slots := 0, locals := 0 }) (va_Pc [.int x, .int a, .int b] (fun _ => True)) (QP (if zIn x a b then 1 else 0)) 0 0 (fun _ => False) := by
  refine zs_pure (cc := cX3_isWithin) (maxL := 3) (ret := (some .boolean)) (own := RX3) (by decide) rfl rfl (Nat.le_of_ble_eq_true rfl) ?_
  intro p e s m args below meth c ls S hr hlk hav hl
  have hx := S.1
  have hb := S.2.1
  have hown := S.2.2.2.1
  have hts := S.2.2.2.2
  have hl : lv_has ls 3 [(0, .int x), (1, .int a), (2, .int b)] := hl
  refine lv_iload_n hx hb dX3_isWithin_0 rfl (lv_at hl 0 rfl) ?_
  refine lv_iload_n hx hb dX3_isWithin_1 rfl (lv_at hl 1 rfl) ?_
  refine lv_icmp_lt (tgt := 14) hx hb dX3_isWithin_2 (by decide) (fun c2 => ?_) (fun c2 => ?_)
  · refine lv_iconst (v := 0) hx hb dX3_isWithin_14 (by decide) ?_
    exact ze_pz S hr hlk (by decide) ((if_neg (fun h => h.1 c2)).symm) dX3_isWithin_15
  · refine lv_iload_n hx hb dX3_isWithin_5 rfl (lv_at hl 0 rfl) ?_
    refine lv_iload_n hx hb dX3_isWithin_6 rfl (lv_at hl 2 rfl) ?_
    refine lv_icmp_gt (tgt := 14) hx hb dX3_isWithin_7 (by decide) (fun c7 => ?_) (fun c7 => ?_)
    · refine lv_iconst (v := 0) hx hb dX3_isWithin_14 (by decide) ?_
      exact ze_pz S hr hlk (by decide) ((if_neg (fun h => h.2 c7)).symm) dX3_isWithin_15
    · refine lv_iconst (v := 1) hx hb dX3_isWithin_10 (by decide) ?_
      refine lv_goto (tgt := 15) hx hb dX3_isWithin_11 (by decide) ?_
      exact ze_pz S hr hlk (by decide) ((if_pos ⟨c2, c7⟩).symm) dX3_isWithin_15
set_option maxHeartbeats 4000000 in
set_option maxRecDepth 100000 in
theorem cX3_kindOf_ok (l : Launch) (x : Int32) : Met l yX3_kindOf wsX3_kindOf ({ frames := 0, cells := 0, slots := 0, locals := 0 }) (va_Pc [.int x] (fun _ => True)) (QP (knd x)) 0 0 (fun _ => False) := by
  refine zs_pure (cc := cX3_kindOf) (maxL := 1) (ret := (some .int)) (own := RX3) (by decide) rfl rfl (Nat.le_of_ble_eq_true rfl) ?_
  intro p e s m args below meth c ls S hr hlk hav hl
  have hx := S.1
  have hb := S.2.1
  have hown := S.2.2.2.1
  have hts := S.2.2.2.2
  have hl : lv_has ls 1 [(0, .int x)] := hl
  refine lv_iload_n hx hb dX3_kindOf_0 rfl (lv_at hl 0 rfl) ?_
  refine lv_bipush (v := 30) hx hb dX3_kindOf_1 (by decide) ?_
  refine lv_icmp_gt (tgt := 8) hx hb dX3_kindOf_3 (by decide) (fun c3 => ?_) (fun c3 => ?_)
  · refine lv_iload_n hx hb dX3_kindOf_8 rfl (lv_at hl 0 rfl) ?_
    refine lv_bipush (v := 60) hx hb dX3_kindOf_9 (by decide) ?_
    refine lv_icmp_gt (tgt := 18) hx hb dX3_kindOf_11 (by decide) (fun c11 => ?_) (fun c11 => ?_)
    · refine lv_iconst (v := 0) hx hb dX3_kindOf_18 (by decide) ?_
      exact ze_p S hr hlk (by simp only [knd, c3, c11, if_true, if_false]) dX3_kindOf_19
    · refine lv_iconst (v := 1) hx hb dX3_kindOf_14 (by decide) ?_
      refine lv_goto (tgt := 19) hx hb dX3_kindOf_15 (by decide) ?_
      exact ze_p S hr hlk (by simp only [knd, c3, c11, if_true, if_false]) dX3_kindOf_19
  · refine lv_iconst (v := 2) hx hb dX3_kindOf_6 (by decide) ?_
    exact ze_p S hr hlk (by simp only [knd, c3, if_true, if_false]) dX3_kindOf_7
set_option maxHeartbeats 4000000 in
set_option maxRecDepth 100000 in
theorem cX3_depthOf_ok (l : Launch) (f a : Int32) : Met l yX3_depthOf wsX3_depthOf ({ frames := 1, cells := 0, slots := 0, locals := 60 }) (va_Pc [.int f, .int a] (fun _ => True)) (QP (dep f a)) 0 0 (fun _ => False) := by
  refine zs_pure (cc := cX3_depthOf) (maxL := 2) (ret := (some .int)) (own := RX3) (by decide) rfl rfl (Nat.le_of_ble_eq_true rfl) ?_
  intro p e s m args below meth c ls S hr hlk hav hl
  have hx := S.1
  have hb := S.2.1
  have hown := S.2.2.2.1
  have hts := S.2.2.2.2
  have hl : lv_has ls 2 [(0, .int f), (1, .int a)] := hl
  have l274 := hts (.methodLink RX3 274 Lib.Math.abs.name) (by decide +kernel)
  have ls_abs := hts (.static Lib.Math.abs.name) (by decide +kernel)
  have li_Math := hts (.initialized "java/lang/Math") (by decide +kernel)
  have lc_abs := hts (.code Lib.Math.abs.name Lib.Math.abs.code 1 (some .int)) (by decide +kernel)
  refine lv_iload_n hx hb dX3_depthOf_0 rfl (lv_at hl 0 rfl) ?_
  refine lv_iload_n hx hb dX3_depthOf_1 rfl (lv_at hl 1 rfl) ?_
  refine lv_iadd hx hb dX3_depthOf_2 ?_
  refine lv_bipush (v := 50) hx hb dX3_depthOf_3 (by decide) ?_
  refine lv_idiv hx hb dX3_depthOf_5 (by decide) ?_
  refine lv_iload_n hx hb dX3_depthOf_6 rfl (lv_at hl 0 rfl) ?_
  refine lv_iload_n hx hb dX3_depthOf_7 rfl (lv_at hl 1 rfl) ?_
  refine lv_isub hx hb dX3_depthOf_8 ?_
  refine z_mabs S hl.1 l274 ls_abs li_Math lc_abs ⟨Nat.le_of_ble_eq_true rfl, Nat.le_of_ble_eq_true rfl, Nat.le_of_ble_eq_true rfl, Nat.le_of_ble_eq_true rfl⟩ dX3_depthOf_9 (v := zab (f - a)) rfl ?_
  refine lv_bipush (v := 40) hx hb dX3_depthOf_12 (by decide) ?_
  refine lv_idiv hx hb dX3_depthOf_14 (by decide) ?_
  refine lv_iadd hx hb dX3_depthOf_15 ?_
  exact ze_p S hr hlk (rfl) dX3_depthOf_16
section ZP
variable {p : Program} {l : Launch} {e : Env} {R : Room} {s : State} {m : MethodId} {args : Array Value} {below : List Frame} {meth : Method} {c : Code} {H : Heap} {locs : List Loc} {cells slots mc ms : Nat} {Q : State → Prop}
variable {cc : ByteArray} {nL N index : Nat} {Ts : List Cond} {own : String} {pc : Nat} {ls : Array Slot} {rest st0 As : List Value} {y : MethodName} {bytes : ByteArray} {maxL : Nat} {ret : Option FieldType} {ws : List Cond} {rm : Room}
/-- a method of numbers calls another -/
theorem z_pp {v : Int32} (S : CallFix p m c cc nL s args Ts own) (hS : va_S (fun _ => False) s.heap H locs) (hM : Met l y ws rm (va_Pc As (fun _ => True)) (QP v) mc ms (fun _ => False)) (cw : CallB R s args own index y bytes maxL ret ws rm mc ms N ∧ (Cond.static y).before args s = true) (hn : As.length = N) (hz : ls.size = nL) (hst : st0 = As.reverse ++ rest) (hr : (rest.map fun v => v.category).sum ≤ 8) (hdg : decode cc pc = .ok (.invokestatic index, 3)) (hf : cells + mc ≤ R.cells ∧ slots + ms ≤ R.slots)
    (kk : ∀ (H1 : Heap) (locs1 : List Loc), va_S (fun _ => False) s.heap H1 locs1 → W p l e R s m args below meth c H1 locs1 (cells + mc) (slots + ms) Q (F0 m (pc + 3) ls (.int v :: rest))) : W p l e R s m args below meth c H locs cells slots Q (F0 m pc ls st0) := by
  refine va_calli (va_runS (As := As) (rest := rest) S hM cw ⟨fun a U g mk q => q, fun U hU hW => ⟨rfl, trivial⟩⟩ rfl hn hz hst (lv_room hr) hdg hf) hS (fun q _ h => h.elim) (fun q h => h.elim) (fun r u t H1 locs1 ht hvm hp hB hz1 hk1 hS1 => ?_)
  subst hp
  exact kk H1 locs1 hS1
theorem ze_pzS {v w : Int32} (S : CallFix p m c cc nL s args Ts own) (hS : va_S (fun _ => False) s.heap H locs) (hr : meth.sig.returnType = some .boolean) (hlk : meth.locks = false) (hb : v = 0 ∨ v = 1) (hp : v = w) (hdg : decode cc pc = .ok (.ireturn, 1)) :
    W p l e R s m args below meth c H locs cells slots (MQ below (QP w) args s cells slots (fun _ => False)) (F0 m pc ls [.int v]) := by
  subst hp
  exact W.zret S.1 S.2.1 hr (by rcases hb with rfl | rfl <;> decide) (fun t ht _ => ⟨⟨v, (), rfl, rfl, trivial⟩, hS.F ht⟩) (fun q hq => (hS.2.2 q hq).elim) hdg hlk
end ZP
theorem zs_pureF {l : Launch} {y : MethodName} {ws ws' : List Cond} {rm : Room} {Qc : Array Value → State → Outcome → State → Prop} {mc ms : Nat} {free : Addr → Prop} {cc : ByteArray} {maxL : Nat} {ret : Option FieldType} {av : List Value} {own : String} (hy : plainFor y = true) (hw : ws = Cond.code y cc maxL ret :: ws') (ho : y.cls = own) (hav : (lg_sl av).length ≤ maxL)
    (body : ∀ p e s m args below meth c ls, CallFix p m c cc maxL s args ws own → meth.sig.returnType = ret → meth.locks = false → args = av.toArray → lv_has ls maxL (lv_args 0 av) → W p l e rm s m args below meth c s.heap [] 0 0 (MQ below Qc args s mc ms free) (F0 m 0 ls [])) : Met l y ws rm (va_Pc av (fun _ => True)) Qc mc ms free := by
  refine va_MetF (cc := cc) (maxL := maxL) (ret := ret) hy hw ?_
  intro p e s m args below meth c s₁ B hml hv
  obtain ⟨rfl, -⟩ := hv
  have hts := atoms_spec (ws := ws) B.pre
  have hown : s.vm.findClass own = some m.cls := by
    rw [← ho]
    exact findClass_of_methodNamed B.named
  rw [lg_entry_eq]
  exact body p e s m _ below meth c _ ⟨B.exec, B.bytes, hml, hown, hts⟩ B.returns B.notSynchronized rfl (lv_entry av hav)
set_option maxHeartbeats 4000000 in
set_option maxRecDepth 100000 in
theorem cX3_isLayer_ok (l : Launch) (x : Int32) : Met l yX3_isLayer wsX3_isLayer ({ frames := 1, cells := 0, slots := 0, locals := 22 }) (va_Pc [.int x] (fun _ => True)) (QP (if zIn x 0 4 then 1 else 0)) 0 0 (fun _ => False) := by
  refine zs_pure (cc := cX3_isLayer) (maxL := 1) (ret := (some .boolean)) (own := RX3) (by decide) rfl rfl (Nat.le_of_ble_eq_true rfl) ?_
  intro p e s m args below meth c ls S hr hlk hav hl
  have hx := S.1
  have hb := S.2.1
  have hts := S.2.2.2.2
  have hl : lv_has ls 1 [(0, .int x)] := hl
  refine lv_iload_n hx hb dX3_isLayer_0 rfl (lv_at hl 0 rfl) ?_
  refine lv_iconst (v := 0) hx hb dX3_isLayer_1 (by decide) ?_
  refine lv_iconst (v := 4) hx hb dX3_isLayer_2 (by decide) ?_
  refine z_pp (As := [.int x, .int 0, .int 4]) (rest := []) S va_S.rf (cX3_isWithin_ok l x 0 4) (va_cwS 3 hts gX3_isLayer_X3_isWithin rfl rfl rfl (by decide +kernel) ⟨Nat.le_of_ble_eq_true rfl, Nat.le_of_ble_eq_true rfl⟩) rfl hl.1 rfl (Nat.le_of_ble_eq_true rfl) dX3_isLayer_3 ⟨Nat.le_of_ble_eq_true rfl, Nat.le_of_ble_eq_true rfl⟩ (fun H locs hS => ?_)
  exact ze_pzS S hS hr hlk zb_01 rfl dX3_isLayer_6
set_option maxHeartbeats 4000000 in
set_option maxRecDepth 100000 in
theorem cX3_isKind_ok (l : Launch) (x : Int32) : Met l yX3_isKind wsX3_isKind ({ frames := 1, cells := 0, slots := 0, locals := 22 }) (va_Pc [.int x] (fun _ => True)) (QP (if zIn x 0 2 then 1 else 0)) 0 0 (fun _ => False) := by
  refine zs_pure (cc := cX3_isKind) (maxL := 1) (ret := (some .boolean)) (own := RX3) (by decide) rfl rfl (Nat.le_of_ble_eq_true rfl) ?_
  intro p e s m args below meth c ls S hr hlk hav hl
  have hx := S.1
  have hb := S.2.1
  have hts := S.2.2.2.2
  have hl : lv_has ls 1 [(0, .int x)] := hl
  refine lv_iload_n hx hb dX3_isKind_0 rfl (lv_at hl 0 rfl) ?_
  refine lv_iconst (v := 0) hx hb dX3_isKind_1 (by decide) ?_
  refine lv_iconst (v := 2) hx hb dX3_isKind_2 (by decide) ?_
  refine z_pp (As := [.int x, .int 0, .int 2]) (rest := []) S va_S.rf (cX3_isWithin_ok l x 0 2) (va_cwS 3 hts gX3_isKind_X3_isWithin rfl rfl rfl (by decide +kernel) ⟨Nat.le_of_ble_eq_true rfl, Nat.le_of_ble_eq_true rfl⟩) rfl hl.1 rfl (Nat.le_of_ble_eq_true rfl) dX3_isKind_3 ⟨Nat.le_of_ble_eq_true rfl, Nat.le_of_ble_eq_true rfl⟩ (fun H locs hS => ?_)
  exact ze_pzS S hS hr hlk zb_01 rfl dX3_isKind_6
set_option maxHeartbeats 4000000 in
set_option maxRecDepth 100000 in
theorem z_xor8 (h : Nat) (hh : h < 2 ^ 31) : (0 : Int32) ≤ (nI h ^^^ 8) := by
  rw [Int32.le_iff_toInt_le]
  have h1 : (nI h ^^^ 8 : Int32).toBitVec.msb = false := by
    rw [Int32.toBitVec_xor, BitVec.msb_xor]
    have h2 : (nI h).toBitVec.msb = false := by
      rw [BitVec.msb_eq_decide, pk_tn (Nat.lt_trans hh (by decide))]
      simp
      omega
    rw [h2]
    rfl
  have h3 : (nI h ^^^ 8 : Int32).toInt = ((nI h ^^^ 8 : Int32).toBitVec.toNat : Int) := by
    show (nI h ^^^ 8 : Int32).toBitVec.toInt = _
    rw [BitVec.toInt_eq_msb_cond, h1]
    rfl
  rw [h3, Int32.toInt_zero]
  exact Int.natCast_nonneg _
theorem cJ9_floorMod_7cf53_ok (l : Launch) (h : Nat) (hh : h < 2 ^ 31) : Met l yJ9_floorMod_7cf53 wsJ9_floorMod_7cf53 ({ frames := 0, cells := 0, slots := 0, locals := 0 }) (va_Pc [.int (nI h), .int 8] (fun _ => True)) (QP (nI (h % 8))) 0 0 (fun _ => False) := by
  refine zs_pureF (cc := cJ9_floorMod_7cf53) (maxL := 3) (ret := (some .int)) (own := RJ9) (by decide +kernel) rfl rfl (Nat.le_of_ble_eq_true rfl) ?_
  intro p e s m args below meth c ls S hr hlk hav hl
  have hx := S.1
  have hb := S.2.1
  have hl : lv_has ls 3 [(0, .int (nI h)), (1, .int 8)] := hl
  refine lv_iload_n hx hb dJ9_floorMod_7cf53_0 rfl (lv_at hl 0 rfl) ?_
  refine lv_iload_n hx hb dJ9_floorMod_7cf53_1 rfl (lv_at hl 1 rfl) ?_
  refine lv_irem hx hb dJ9_floorMod_7cf53_2 (by decide) ?_
  refine lv_istore_n (lv' := [(2, .int (nI h - nI h / 8 * 8)), (0, .int (nI h)), (1, .int 8)]) hx hb dJ9_floorMod_7cf53_3 rfl hl (by decide) rfl (fun ls hl => ?_)
  refine lv_iload_n hx hb dJ9_floorMod_7cf53_4 rfl (lv_at hl 1 rfl) ?_
  refine lv_iload_n hx hb dJ9_floorMod_7cf53_5 rfl (lv_at hl 2 rfl) ?_
  refine lv_ixor hx hb dJ9_floorMod_7cf53_6 ?_
  refine lv_if_ge (tgt := 18) hx hb dJ9_floorMod_7cf53_7 (by decide) (fun _ => ?_) (fun c => absurd (z_xor8 h hh) c)
  refine lv_iload_n hx hb dJ9_floorMod_7cf53_18 rfl (lv_at hl 0 rfl) ?_
  exact ze_p S hr hlk (pk_rem (d := 8) hh (by decide) (by decide)) dJ9_floorMod_7cf53_19
