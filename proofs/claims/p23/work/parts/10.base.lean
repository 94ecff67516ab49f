/-! The worlds of this proof: one list of n cells at the addresses ad k; cells 0..27 are the sledge side, 28..34 the reference, the rest what else stands there. -/
def zup (al : Nat → Nat → Int32) (k j : Nat) (v : Int32) : Nat → Nat → Int32 := fun a => if a = k then upd (al a) j v else al a
theorem zup_k {al : Nat → Nat → Int32} {k j : Nat} {v : Int32} : zup al k j v k = upd (al k) j v := if_pos rfl
theorem zup_o {al : Nat → Nat → Int32} {k j a : Nat} {v : Int32} (h : a ≠ k) : zup al k j v a = al a := if_neg h
def wL (n : Nat) (ad : Nat → Nat) (ce : Nat → va_E) : va_W := (List.range n).map (fun k => (ad k, ce k))
theorem wL_get {n : Nat} {ad : Nat → Nat} {ce : Nat → va_E} {k : Nat} (h : k < n) : (wL n ad ce)[k]? = some (ad k, ce k) := by
  unfold wL
  rw [List.getElem?_map, List.getElem?_range h]
  rfl
theorem wL_len {n : Nat} {ad : Nat → Nat} {ce : Nat → va_E} : (wL n ad ce).length = n := by
  unfold wL
  rw [List.length_map, List.length_range]
theorem wL_inv {n : Nat} {ad : Nat → Nat} {ce : Nat → va_E} {k : Nat} {q : Nat × va_E} (h : (wL n ad ce)[k]? = some q) : k < n ∧ q = (ad k, ce k) := by
  have hk : k < n := by
    have h1 := (List.getElem?_eq_some_iff.mp h).1
    rw [wL_len] at h1
    exact h1
  rw [wL_get hk] at h
  exact ⟨hk, (Option.some.inj h).symm⟩
theorem wL_set {n : Nat} {ad : Nat → Nat} {ce ce' : Nat → va_E} {k : Nat} {e : va_E} (h1 : ce' k = e) (h2 : ∀ j, j ≠ k → ce' j = ce j) : (wL n ad ce).set k (ad k, e) = wL n ad ce' := by
  apply List.ext_getElem?
  intro j
  by_cases hj : j < n
  · rw [wL_get hj]
    by_cases hk : j = k
    · subst hk
      rw [List.getElem?_set_self (by rw [wL_len]; exact hj), h1]
    · rw [List.getElem?_set_ne (Ne.symm hk), wL_get hj, h2 j hk]
  · rw [List.getElem?_eq_none (by rw [List.length_set, wL_len]; omega), List.getElem?_eq_none (by rw [wL_len]; omega)]
theorem wL_D {A : Nat → Prop} {n : Nat} {ad : Nat → Nat} {ce ce' : Nat → va_E} (h : va_D A (wL n ad ce)) : va_D A (wL n ad ce') := by
  refine ⟨fun i j p q hi hj e => ?_, fun k q hk => ?_⟩
  · obtain ⟨a1, rfl⟩ := wL_inv hi
    obtain ⟨a2, rfl⟩ := wL_inv hj
    exact h.1 i j (ad i, ce i) (ad j, ce j) (wL_get a1) (wL_get a2) e
  · obtain ⟨a1, rfl⟩ := wL_inv hk
    exact h.2 k (ad k, ce k) (wL_get a1)
def WS (D : va_G) (n : Nat) (ad : Nat → Nat) (ce : Nat → va_E) (A : Nat → Prop) (H0 H : Heap) (locs : List Loc) : Prop := va_P D vwCl (wL n ad ce) H ∧ va_D A (wL n ad ce) ∧ va_S A H0 H locs
theorem WS.to {D : va_G} {n : Nat} {ad : Nat → Nat} {ce ce' : Nat → va_E} {A : Nat → Prop} {H0 H : Heap} {locs : List Loc} (h : WS D n ad ce A H0 H locs) (e : ce = ce') : WS D n ad ce' A H0 H locs := e ▸ h
abbrev tyA (cy : Nat → ClassId) : List (ClassId × FieldType) := [(cy 0, .int), (cy 1, .object RX2), (cy 2, .object RX0), (cy 3, .array .int), (cy 4, .object RX5)]
def Acc (n : Nat) (ad : Nat → Nat) (sz : Nat) : Nat → Prop := fun q => (∃ k, k < n ∧ q = ad k) ∨ sz ≤ q
/-- words of nest mates and casts that the rows need -/
def zN : List Cond := [
  .methodLinkNest "PumiceSledge" 33 ⟨"PumiceSledge$Shore", "<init>", "()V"⟩ "PumiceSledge",
  .fieldLinkNest "PumiceSledge" 142 "PumiceSledge$Shore" "sacks" "[I" "PumiceSledge",
  .fieldLinkNest "PumiceSledge$Sledge" 64 "PumiceSledge$Shore" "sacks" "[I" "PumiceSledge",
  .fieldLinkNest "PumiceSledge$Sledge" 49 "PumiceSledge$Shore" "lost" "I" "PumiceSledge",
  .fieldLinkNest "PumiceSledge" 205 "PumiceSledge$Shore" "lost" "I" "PumiceSledge",
  .methodLinkNest "PumiceSledge" 38 ⟨"PumiceSledge$Sledge", "<init>", "()V"⟩ "PumiceSledge",
  .fieldLinkNest "PumiceSledge" 84 "PumiceSledge$Sledge" "holds" "I" "PumiceSledge",
  .methodLinkNest "PumiceSledgeLaw$Sim" 66 ⟨"PumiceSledgeLaw", "kind", "(I)I"⟩ "PumiceSledgeLaw",
  .fieldLinkNest "PumiceSledge" 116 "PumiceSledge$Sledge" "aboard" "I" "PumiceSledge",
  .fieldLinkNest "PumiceSledge" 177 "PumiceSledge$Sledge" "height" "I" "PumiceSledge",
  .fieldLinkNest "PumiceSledge" 92 "PumiceSledge$Sledge" "course" "I" "PumiceSledge",
  .methodLinkNest "PumiceSledge" 46 ⟨"PumiceSledge$Boat", "<init>", "()V"⟩ "PumiceSledge",
  .fieldLinkNest "PumiceSledge" 126 "PumiceSledge$Boat" "mostLoad" "I" "PumiceSledge",
  .fieldLinkNest "PumiceSledge" 153 "PumiceSledge$Boat" "fore" "I" "PumiceSledge",
  .fieldLinkNest "PumiceSledge" 156 "PumiceSledge$Boat" "aft" "I" "PumiceSledge",
  .methodLinkNest "PumiceSledge$Sledge" 32 ⟨"PumiceSledge", "kindOf", "(I)I"⟩ "PumiceSledge",
  .methodLinkNest "PumiceSledge$Boat" 16 ⟨"PumiceSledge", "depthOf", "(II)I"⟩ "PumiceSledge",
  .methodLinkNest "PumiceSledge$Boat" 29 ⟨"PumiceSledge", "isWithin", "(III)Z"⟩ "PumiceSledge",
  .castable "java/lang/IndexOutOfBoundsException" "java/lang/IndexOutOfBoundsException",
  .castable "java/lang/IllegalArgumentException" "java/lang/IllegalArgumentException",
  .castable "java/lang/IllegalStateException" "java/lang/IllegalStateException",
  .castable "java/lang/IllegalStateException" "java/lang/IllegalStateException",
  .declares ⟨"java/lang/RuntimeException", "<init>", "(Ljava/lang/String;)V"⟩,
  .declares ⟨"java/lang/Exception", "<init>", "(Ljava/lang/String;)V"⟩,
  .declares ⟨"java/lang/Throwable", "<init>", "(Ljava/lang/String;)V"⟩,
  .methodLinkNest "PumiceSledgeLaw" 27 ⟨"PumiceSledgeLaw$Sledge", "<init>", "()V"⟩ "PumiceSledgeLaw",
  .methodLinkNest "PumiceSledgeLaw" 98 ⟨"PumiceSledgeLaw$Sim", "<init>", "()V"⟩ "PumiceSledgeLaw"]
def zNk : Cond → Bool
  | .fieldLinkNest .. => true
  | .methodLinkNest .. => true
  | .castable .. => true
  | .declares _ => true
  | _ => false
theorem zN_k : zN.all zNk = true := by decide +kernel
theorem zN_warm1 {w : Cond} {s U : State} (hk : zNk w = true) (hW : s.WarmedH U.vm) (h : va_Nw w s) : va_Nw w U := by
  cases w <;> first | exact va_Nw.warmF hW h | exact va_Nw.warmM hW h | exact va_Nw.warmC hW h | exact va_Nw.warmD hW h | (exact absurd hk (by decide)) | (cases hk)
theorem zNk_tab {w : Cond} (hk : zNk w = true) : w.onTables = true := by
  cases w <;> first | rfl | (cases hk)
def NW (U : State) : Prop := ∀ w ∈ zN, va_Nw w U
theorem NW.warm {s U : State} (hW : s.WarmedH U.vm) (h : NW s) : NW U := fun w hw => zN_warm1 (List.all_eq_true.mp zN_k w hw) hW (h w hw)
theorem NW.same {s U : State} (e : s.vm = U.vm) (h : NW s) : NW U := fun w hw => va_Nw.same (zNk_tab (List.all_eq_true.mp zN_k w hw)) e (h w hw)
theorem NW.at {s : State} (h : NW s) (k : Nat) {w : Cond} (hk : zN[k]? = some w) : va_Nw w s := h w (List.mem_of_getElem? hk)
/-- the texts of the messages: their places and words -/
def zT : List (Nat × String) := [
  (53, "layer is not 0 to 4"),
  (64, "stones is not 0 to 500"),
  (67, "weight is not 1 to 9"),
  (69, "hour is not 0 to 7"),
  (71, "gust is not 0 to 9"),
  (73, "holds is not 1 to 8"),
  (81, "there are 6 sledges"),
  (90, "there is no such sledge"),
  (95, "the sledge does not stand"),
  (101, "the sledge is full"),
  (103, "the layer has fewer than 10 stones"),
  (119, "load is not 100 to 900"),
  (124, "there are 4 boats"),
  (132, "there is no such boat"),
  (137, "kind is not 0 to 2"),
  (145, "there is no such sack on the beach"),
  (151, "the boat would have more than its load"),
  (165, "the boat cannot sail"),
  (173, "what is not 0 to 3"),
  (175, "what is not 0 to 5"),
  (186, "what is not 0 to 6"),
  (191, "what is not 0 to 8"),
  (211, "hours is not 1 to 60"),
  (228, "what is not 5 to 7")]
def ST (sa : Nat → Nat) (U : State) : Prop := (∀ (k i : Nat) (t : String), zT[k]? = some (i, t) → vk_R RX3 i t (sa k) U) ∧ (Cond.arrayOver (.array .int)).before #[] U = true ∧ va_AO RX5 U
theorem ST.warm {sa : Nat → Nat} {s U : State} (hW : s.WarmedH U.vm) (h : ST sa s) : ST sa U := ⟨fun k i t hk => vk_R.warm hW (h.1 k i t hk), over_moved hW.alike h.2.1, va_AO.moved hW.alike h.2.2⟩
theorem ST.same {sa : Nat → Nat} {s U : State} (e : U.vm = s.vm) (h : ST sa s) : ST sa U := ⟨fun k i t hk => vk_R.same e (h.1 k i t hk), over_moved (by rw [e]; exact Vm.Alike.refl s.vm) h.2.1, va_AO.moved (by rw [e]; exact Vm.Alike.refl s.vm) h.2.2⟩
def ZEnv0 (D : va_G) (cy sa : Nat → Nat) (A : Nat → Prop) (s : State) (H : Heap) : Prop := va_K D vwCl (tyA cy) s ∧ NW s ∧ ST sa s ∧ vx_Zq Bundle.tN "UNASSIGNED_STACK" Bundle.steD A s H ∧ vx_Zq Bundle.tN "SUPPRESSED_SENTINEL" Bundle.listD A s H
def ZEnv (D : va_G) (cy sa : Nat → Nat) (A : Nat → Prop) (s : State) : Prop := ZEnv0 D cy sa A s s.heap ∧ ∀ q, s.heap.size ≤ q → A q
section ZA
variable {D : va_G} {cy sa : Nat → Nat} {A B : Nat → Prop} {s U : State} {n : Nat} {ad : Nat → Nat} {ce ce' : Nat → va_E} {H0 H : Heap} {locs : List Loc}
theorem WS.acc (hA : ∀ q, H0.size ≤ q → A q) (h : WS D n ad ce A H0 H locs) : ∀ q, Acc n ad H.size q → A q := by
  intro q hq
  rcases hq with ⟨k, hk, rfl⟩ | hq
  · exact h.2.1.2 k _ (wL_get hk)
  · exact hA q (Nat.le_trans h.2.2.1 hq)
theorem WS.lt (h : WS D n ad ce A H0 H locs) {k : Nat} (hk : k < n) : ad k < H.size := (h.1 k _ (wL_get hk)).lt
theorem WS.D0 (h : WS D n ad ce A H0 H locs) {ce' : Nat → va_E} : va_D (fun _ => True) (wL n ad ce') := wL_D (h.2.1.weaken (fun _ _ _ _ => trivial))
theorem ZEnv.at (hE : ZEnv D cy sa A s) (hS : va_S A s.heap H locs) (hB : ∀ q, B q → A q) (hz : ∀ q, H.size ≤ q → B q) (hU : U.heap = H) (hW : s.WarmedH U.vm) : ZEnv D cy sa B U := by
  obtain ⟨⟨h1, h2, h3, h4, h5⟩, -⟩ := hE
  refine ⟨⟨va_K.moved hW.alike h1, NW.warm hW h2, ST.warm hW h3, ?_, ?_⟩, fun q hq => hz q (by rw [← hU]; exact hq)⟩
  · rw [hU]; exact vx_Zq.moved hW.alike ((h4.kept hS.2.1).narrow hB)
  · rw [hU]; exact vx_Zq.moved hW.alike ((h5.kept hS.2.1).narrow hB)
theorem ZEnv.call (hE : ZEnv D cy sa A s) (g : JFrame) (mk : MethodId) (a : Array Value) : ZEnv D cy sa A (s.calling g mk a) := by
  obtain ⟨⟨h1, h2, h3, h4, h5⟩, h6⟩ := hE
  exact ⟨⟨va_K.moved (u := s) (U := s.calling g mk a) (Vm.Alike.refl s.vm) h1, NW.same (s := s) (U := s.calling g mk a) rfl h2, ST.same (s := s) (U := s.calling g mk a) rfl h3, vx_Zq.moved (u := s) (U := s.calling g mk a) (Vm.Alike.refl s.vm) h4, vx_Zq.moved (u := s) (U := s.calling g mk a) (Vm.Alike.refl s.vm) h5⟩, h6⟩
theorem ZEnv.drawn (hE : ZEnv D cy sa A s) (d : Drawn) : ZEnv D cy sa A (s.setDrawn d) := by
  obtain ⟨⟨h1, h2, h3, h4, h5⟩, h6⟩ := hE
  exact ⟨⟨va_K.moved (u := s) (U := s.setDrawn d) (Vm.Alike.refl s.vm) h1, NW.same (s := s) (U := s.setDrawn d) rfl h2, ST.same (s := s) (U := s.setDrawn d) rfl h3, vx_Zq.moved (u := s) (U := s.setDrawn d) (Vm.Alike.refl s.vm) h4, vx_Zq.moved (u := s) (U := s.setDrawn d) (Vm.Alike.refl s.vm) h5⟩, h6⟩
/-- a method's start: its world stands -/
def PW (D : va_G) (n : Nat) (ad cy sa : Nat → Nat) (sz : Nat) (ce : Nat → va_E) (av : List Value) : Array Value → State → Prop := va_Pc av (fun U => U.heap.size = sz ∧ va_P D vwCl (wL n ad ce) U.heap ∧ va_D (fun _ => True) (wL n ad ce) ∧ ZEnv D cy sa (Acc n ad sz) U)
theorem PW_blind {sz : Nat} {av : List Value} : FrameBlind (PW D n ad cy sa sz ce av) := by
  intro a U g mk h
  obtain ⟨h0, h1, h2, h3, h4⟩ := h
  exact ⟨h0, h1, h2, h3, h4.call g mk a⟩
theorem PW_at (hE : ZEnv D cy sa A s) (h : WS D n ad ce A s.heap H locs) {av : List Value} : ∀ U : State, U.heap = H → s.WarmedH U.vm → PW D n ad cy sa H.size ce av av.toArray U := by
  intro U hU hW
  exact ⟨rfl, by rw [hU], by rw [hU]; exact h.1, h.D0, hE.at h.2.2 (h.acc hE.2) (fun q hq => Or.inr hq) hU hW⟩
theorem WS.kept (h : WS D n ad ce A H0 H locs) {H1 : Heap} {locs1 : List Loc} (hk : ∀ q : Nat, q < H.size → H1[q]? = H[q]?) (hS : va_S A H0 H1 locs1) : WS D n ad ce A H0 H1 locs1 :=
  ⟨h.1.kept (fun k q hq => hk q.1 (h.1 k q hq).lt), h.2.1, hS⟩
/-- what a method leaves: the answer's row, and the new cells -/
abbrev QWi {S : Type} (D : va_G) (n : Nat) (ad : Nat → Nat) (sz : Nat) (post : Int32 → S → Prop) (ceF : S → Nat → va_E) : Array Value → State → Outcome → State → Prop := va_Qi post (fun u t => va_P D vwCl (wL n ad (ceF u)) t.heap) (Acc n ad sz)
abbrev QWl {S : Type} (D : va_G) (n : Nat) (ad : Nat → Nat) (sz : Nat) (post : Int64 → S → Prop) (ceF : S → Nat → va_E) : Array Value → State → Outcome → State → Prop := va_Ql post (fun u t => va_P D vwCl (wL n ad (ceF u)) t.heap) (Acc n ad sz)
abbrev QWd {S : Type} (D : va_G) (n : Nat) (ad : Nat → Nat) (sz : Nat) (post : UInt64 → S → Prop) (ceF : S → Nat → va_E) : Array Value → State → Outcome → State → Prop := va_Qd post (fun u t => va_P D vwCl (wL n ad (ceF u)) t.heap) (Acc n ad sz)
abbrev QWv {S : Type} (D : va_G) (n : Nat) (ad : Nat → Nat) (sz : Nat) (post : S → Prop) (ceF : S → Nat → va_E) : Array Value → State → Outcome → State → Prop := va_Qv post (fun u t => va_P D vwCl (wL n ad (ceF u)) t.heap) (Acc n ad sz)
abbrev XW (D : va_G) (n : Nat) (ad : Nat → Nat) (sz : Nat) (bad : String → Prop) (ce : Nat → va_E) : String → State → State → Prop := vx_X (fun _ : Unit => True) (fun E _ t => bad E ∧ va_P D vwCl (wL n ad ce) t.heap) (Acc n ad sz)
end ZA
section ZS
variable {l : Launch} {y : MethodName} {ws ws' : List Cond} {rm : Room} {Qc : Array Value → State → Outcome → State → Prop} {XC : String → State → State → Prop} {mc ms : Nat} {free : Addr → Prop} {cc : ByteArray} {maxL : Nat} {ret : Option FieldType} {D : va_G} {n : Nat} {ad cy sa : Nat → Nat} {sz : Nat} {ce : Nat → va_E} {av : List Value} {own : String}
theorem zs_met (hy : plainName y.cls = true) (hw : ws = Cond.code y cc maxL ret :: ws') (ho : y.cls = own) (hav : (lg_sl av).length ≤ maxL)
    (body : ∀ p e s m args below meth c ls, CallFix p m c cc maxL s args ws own → ZEnv D cy sa (Acc n ad s.heap.size) s → WS D n ad ce (Acc n ad s.heap.size) s.heap s.heap [] → meth.sig.returnType = ret → meth.locks = false → s.heap.size = sz → args = av.toArray → lv_has ls maxL (lv_args 0 av) → W p l e rm s m args below meth c s.heap [] 0 0 (MQ below Qc args s mc ms free) (F0 m 0 ls [])) : Met l y ws rm (PW D n ad cy sa sz ce av) Qc mc ms free := by
  refine Met.ofW (cc := cc) (maxL := maxL) (ret := ret) hy hw ?_
  intro p e s m args below meth c s₁ B hml hv
  obtain ⟨rfl, hsz, hP, hD, hE⟩ := hv
  have hts := atoms_spec (ws := ws) B.pre
  have hown : s.vm.findClass own = some m.cls := by
    rw [← ho]
    exact findClass_of_methodNamed B.named
  subst hsz
  rw [lg_entry_eq]
  have hD2 : va_D (Acc n ad s.heap.size) (wL n ad ce) := ⟨hD.1, fun k q hk => by
    obtain ⟨h1, rfl⟩ := wL_inv hk
    exact Or.inl ⟨k, h1, rfl⟩⟩
  exact body p e s m _ below meth c _ ⟨B.exec, B.bytes, hml, hown, hts⟩ hE ⟨hP, hD2, va_S.rf⟩ B.returns B.notSynchronized rfl rfl (lv_entry av hav)
theorem zs_vx (hy : plainName y.cls = true) (hw : ws = Cond.code y cc maxL ret :: ws') (ho : y.cls = own) (hav : (lg_sl av).length ≤ maxL)
    (body : ∀ p e s m args below meth c ls, CallFix p m c cc maxL s args ws own → (∀ x ∈ c.exceptionTable.toList, False) → ZEnv D cy sa (Acc n ad s.heap.size) s → WS D n ad ce (Acc n ad s.heap.size) s.heap s.heap [] → meth.sig.returnType = ret → meth.locks = false → s.heap.size = sz → args = av.toArray → lv_has ls maxL (lv_args 0 av) → W p l e rm s m args below meth c s.heap [] 0 0 (vx_MQ below Qc XC args s mc ms free) (F0 m 0 ls [])) : vx_Met l y ws rm (PW D n ad cy sa sz ce av) Qc XC mc ms free := by
  refine vx_ofW (cc := cc) (maxL := maxL) (ret := ret) hy hw ?_
  intro p e s m args below meth c s₁ B hml hnx hv
  obtain ⟨rfl, hsz, hP, hD, hE⟩ := hv
  have hts := atoms_spec (ws := ws) B.pre
  have hown : s.vm.findClass own = some m.cls := by
    rw [← ho]
    exact findClass_of_methodNamed B.named
  subst hsz
  rw [lg_entry_eq]
  have hD2 : va_D (Acc n ad s.heap.size) (wL n ad ce) := ⟨hD.1, fun k q hk => by
    obtain ⟨h1, rfl⟩ := wL_inv hk
    exact Or.inl ⟨k, h1, rfl⟩⟩
  exact body p e s m _ below meth c _ ⟨B.exec, B.bytes, hml, hown, hts⟩ hnx hE ⟨hP, hD2, va_S.rf⟩ B.returns B.notSynchronized rfl rfl (lv_entry av hav)
/-- a static method of numbers alone -/
theorem zs_pure (hy : plainName y.cls = true) (hw : ws = Cond.code y cc maxL ret :: ws') (ho : y.cls = own) (hav : (lg_sl av).length ≤ maxL)
    (body : ∀ p e s m args below meth c ls, CallFix p m c cc maxL s args ws own → meth.sig.returnType = ret → meth.locks = false → args = av.toArray → lv_has ls maxL (lv_args 0 av) → W p l e rm s m args below meth c s.heap [] 0 0 (MQ below Qc args s mc ms free) (F0 m 0 ls [])) : Met l y ws rm (va_Pc av (fun _ => True)) Qc mc ms free := by
  refine Met.ofW (cc := cc) (maxL := maxL) (ret := ret) hy hw ?_
  intro p e s m args below meth c s₁ B hml hv
  obtain ⟨rfl, -⟩ := hv
  have hts := atoms_spec (ws := ws) B.pre
  have hown : s.vm.findClass own = some m.cls := by
    rw [← ho]
    exact findClass_of_methodNamed B.named
  rw [lg_entry_eq]
  exact body p e s m _ below meth c _ ⟨B.exec, B.bytes, hml, hown, hts⟩ B.returns B.notSynchronized rfl (lv_entry av hav)
end ZS
abbrev QP (v : Int32) : Array Value → State → Outcome → State → Prop := va_Qi (fun r (_ : Unit) => r = v) (fun _ _ => True) (fun _ => False)
abbrev QPl (v : Int64) : Array Value → State → Outcome → State → Prop := va_Ql (fun r (_ : Unit) => r = v) (fun _ _ => True) (fun _ => False)
section ZR
variable {p : Program} {l : Launch} {e : Env} {R : Room} {s : State} {m : MethodId} {args : Array Value} {below : List Frame} {meth : Method} {c : Code} {H : Heap} {locs : List Loc} {cells slots : Nat} {Q : State → Prop}
variable {cc : ByteArray} {nL : Nat} {Ts : List Cond} {own : String} {pc : Nat} {ls : Array Slot} {rest st0 : List Value} {D : va_G} {n : Nat} {ad cy sa : Nat → Nat} {ce ce' : Nat → va_E} {A : Nat → Prop}
/-- a field of an object of the world, read by its own file or by a nest mate -/
theorem z_get {ref C : String} {T : u_T} {N ci index : Nat} (S : CallFix p m c cc nL s args Ts own) (hE : ZEnv D cy sa A s) (hW : WS D n ad ce A s.heap H locs) (hin : ∀ w ∈ u_ws C T N, w ∈ Ts) (hc : vwCl[ci]? = some (C, T, N)) {k : Nat} (hk : k < n) {fs : List Value} (he : ce k = .inr (ci, fs)) (f : Nat) (hf : f < N) (href : (T f).1 = ref) (hlink : (Cond.fieldLink own index ref (T f).2.1 (T f).2.2.1).before args s = true) {v : Value} (hv : fs[f]? = some v) (hdg : decode cc pc = .ok (.getfield index, 3))
    (kk : W p l e R s m args below meth c H locs cells slots Q (F0 m (pc + 3) ls (v :: rest))) : W p l e R s m args below meth c H locs cells slots Q (F0 m pc ls (.ref (ad k) :: rest)) := by
  obtain ⟨hx, hb, hml, hown, hts⟩ := S
  exact va_get (D := D) (ci := ci) (C := C) (T := T) (N := N) hx hb hts hin hown hE.1.1 hW.1 k (by rw [wL_get hk, he]) hc f hf hlink (fun x h => by rw [← href]; exact h) hv hdg kk
theorem z_getN {ref C host : String} {T : u_T} {N ci index : Nat} (S : CallFix p m c cc nL s args Ts own) (hE : ZEnv D cy sa A s) (hW : WS D n ad ce A s.heap H locs) (hin : ∀ w ∈ u_ws C T N, w ∈ Ts) (hc : vwCl[ci]? = some (C, T, N)) {k : Nat} (hk : k < n) {fs : List Value} (he : ce k = .inr (ci, fs)) (f : Nat) (hf : f < N) (href : (T f).1 = ref) (i : Nat) (hlink : zN[i]? = some (Cond.fieldLinkNest own index ref (T f).2.1 (T f).2.2.1 host)) {v : Value} (hv : fs[f]? = some v) (hdg : decode cc pc = .ok (.getfield index, 3))
    (kk : W p l e R s m args below meth c H locs cells slots Q (F0 m (pc + 3) ls (v :: rest))) : W p l e R s m args below meth c H locs cells slots Q (F0 m pc ls (.ref (ad k) :: rest)) := by
  obtain ⟨hx, hb, hml, hown, hts⟩ := S
  exact va_getN (D := D) (ci := ci) (C := C) (T := T) (N := N) hx hb hts hin hown hE.1.1 hW.1 k (by rw [wL_get hk, he]) hc f hf (va_Nw.use rfl (hE.1.2.1.at i hlink)) (fun x h => by rw [← href]; exact h) hv hdg kk
theorem z_put {ref C : String} {T : u_T} {N ci index : Nat} (S : CallFix p m c cc nL s args Ts own) (hE : ZEnv D cy sa A s) (hW : WS D n ad ce A s.heap H locs) (hin : ∀ w ∈ u_ws C T N, w ∈ Ts) (ty0 : Nat → FieldType) (hty : ∀ k, k < N → parseFieldDescriptor (T k).2.2.1 = some (ty0 k)) (hnm : ∀ a, a < N → ∀ b, b < N → a ≠ b → (T a).2.1 ≠ (T b).2.1) (hc : vwCl[ci]? = some (C, T, N)) {k : Nat} (hk : k < n) {fs : List Value} (he : ce k = .inr (ci, fs)) (f : Nat) (hf : f < N) (href : (T f).1 = ref) (hlink : (Cond.fieldLink own index ref (T f).2.1 (T f).2.2.1).before args s = true) (hfin : (T f).2.2.2 = false) (hti : ty0 f = .int) (hl : f < fs.length) {x : Int32} (h1 : ce' k = .inr (ci, fs.set f (.int x))) (h2 : ∀ j, j ≠ k → ce' j = ce j) (hdg : decode cc pc = .ok (.putfield index, 3))
    (kk : ∀ (H1 : Heap) (locs1 : List Loc), WS D n ad ce' A s.heap H1 locs1 → W p l e R s m args below meth c H1 locs1 cells slots Q (F0 m (pc + 3) ls rest)) : W p l e R s m args below meth c H locs cells slots Q (F0 m pc ls (.int x :: .ref (ad k) :: rest)) := by
  obtain ⟨hx, hb, hml, hown, hts⟩ := S
  refine va_put (D := D) (ci := ci) (C := C) (T := T) (N := N) (ty := .int) hx hb hts hin ty0 hty hnm hown hE.1.1 hW.1 hW.2.1 hW.2.2 k (by rw [wL_get hk, he]) hc f hf hlink (fun x h => by rw [← href]; exact h) hfin (by rw [hty f hf, hti]) rfl rfl hl hdg (fun H1 locs1 hP hD hS => ?_)
  rw [wL_set h1 h2] at hP hD
  exact kk H1 locs1 ⟨hP, hD, hS⟩
theorem z_putN {ref C host : String} {T : u_T} {N ci index : Nat} (S : CallFix p m c cc nL s args Ts own) (hE : ZEnv D cy sa A s) (hW : WS D n ad ce A s.heap H locs) (hin : ∀ w ∈ u_ws C T N, w ∈ Ts) (ty0 : Nat → FieldType) (hty : ∀ k, k < N → parseFieldDescriptor (T k).2.2.1 = some (ty0 k)) (hnm : ∀ a, a < N → ∀ b, b < N → a ≠ b → (T a).2.1 ≠ (T b).2.1) (hc : vwCl[ci]? = some (C, T, N)) {k : Nat} (hk : k < n) {fs : List Value} (he : ce k = .inr (ci, fs)) (f : Nat) (hf : f < N) (href : (T f).1 = ref) (i : Nat) (hlink : zN[i]? = some (Cond.fieldLinkNest own index ref (T f).2.1 (T f).2.2.1 host)) (hfin : (T f).2.2.2 = false) (hti : ty0 f = .int) (hl : f < fs.length) {x : Int32} (h1 : ce' k = .inr (ci, fs.set f (.int x))) (h2 : ∀ j, j ≠ k → ce' j = ce j) (hdg : decode cc pc = .ok (.putfield index, 3))
    (kk : ∀ (H1 : Heap) (locs1 : List Loc), WS D n ad ce' A s.heap H1 locs1 → W p l e R s m args below meth c H1 locs1 cells slots Q (F0 m (pc + 3) ls rest)) : W p l e R s m args below meth c H locs cells slots Q (F0 m pc ls (.int x :: .ref (ad k) :: rest)) := by
  obtain ⟨hx, hb, hml, hown, hts⟩ := S
  refine va_putN (D := D) (ci := ci) (C := C) (T := T) (N := N) (ty := .int) hx hb hts hin ty0 hty hnm hown hE.1.1 hW.1 hW.2.1 hW.2.2 k (by rw [wL_get hk, he]) hc f hf (va_Nw.use rfl (hE.1.2.1.at i hlink)) (fun x h => by rw [← href]; exact h) hfin (by rw [hty f hf, hti]) rfl rfl hl hdg (fun H1 locs1 hP hD hS => ?_)
  rw [wL_set h1 h2] at hP hD
  exact kk H1 locs1 ⟨hP, hD, hS⟩
theorem z_inj {j N : Nat} (h : j < N) (hN : N < 2 ^ 31) : vp_in (nI j) N ∧ (nI j).toNatClampNeg = j := ⟨vp_in_nI h hN, nI_clamp (Nat.lt_trans h hN)⟩
/-- an int array of the world, read and written at the place j -/
theorem z_ald (S : CallFix p m c cc nL s args Ts own) (hE : ZEnv D cy sa A s) (hW : WS D n ad ce A s.heap H locs) {k : Nat} (hk : k < n) {N : Nat} {f : Nat → Int32} (he : ce k = .inl (cy 0, N, .inl f)) {i : Int32} (j : Nat) (hi : i = nI j) (hj : j < N) (hN : N < 2 ^ 31) {v : Int32} (hv : f j = v) (hdg : decode cc pc = .ok (.iaload, 1))
    (kk : W p l e R s m args below meth c H locs cells slots Q (F0 m (pc + 1) ls (.int v :: rest))) : W p l e R s m args below meth c H locs cells slots Q (F0 m pc ls (.int i :: .ref (ad k) :: rest)) := by
  obtain ⟨hx, hb, hml, hown, hts⟩ := S
  subst hi
  obtain ⟨h1, h2⟩ := z_inj hj hN
  refine va_iald (D := D) hx hb hE.1.1 hW.1 k 0 (by rw [wL_get hk, he]) rfl h1 hdg ?_
  rw [h2, hv]
  exact kk
theorem z_ast (S : CallFix p m c cc nL s args Ts own) (hE : ZEnv D cy sa A s) (hW : WS D n ad ce A s.heap H locs) {k : Nat} (hk : k < n) {N : Nat} {f : Nat → Int32} (he : ce k = .inl (cy 0, N, .inl f)) {i x : Int32} (j : Nat) (hi : i = nI j) (hj : j < N) (hN : N < 2 ^ 31) (h1 : ce' k = .inl (cy 0, N, .inl (upd f j x))) (h2 : ∀ j, j ≠ k → ce' j = ce j) (hdg : decode cc pc = .ok (.iastore, 1))
    (kk : ∀ (H1 : Heap) (locs1 : List Loc), WS D n ad ce' A s.heap H1 locs1 → W p l e R s m args below meth c H1 locs1 cells slots Q (F0 m (pc + 1) ls rest)) : W p l e R s m args below meth c H locs cells slots Q (F0 m pc ls (.int x :: .int i :: .ref (ad k) :: rest)) := by
  obtain ⟨hx, hb, hml, hown, hts⟩ := S
  subst hi
  obtain ⟨q1, q2⟩ := z_inj hj hN
  refine va_iast (D := D) hx hb hE.1.1 hW.1 hW.2.1 hW.2.2 k 0 (by rw [wL_get hk, he]) rfl q1 hdg (fun H1 locs1 hP hD hS => ?_)
  rw [q2, wL_set h1 h2] at hP hD
  exact kk H1 locs1 ⟨hP, hD, hS⟩
/-- a reference out of an array of the world -/
theorem z_aldq (S : CallFix p m c cc nL s args Ts own) (hE : ZEnv D cy sa A s) (hW : WS D n ad ce A s.heap H locs) {k : Nat} (hk : k < n) {N t0 : Nat} {C : String} {f : Nat → Option Nat} (he : ce k = .inl (cy t0, N, .inr (.inr (.inr (.inr f))))) (ht : (tyA cy)[t0]? = some (cy t0, .object C)) {i : Int32} (j : Nat) (hi : i = nI j) (hj : j < N) (hN : N < 2 ^ 31) {v : Value} (hv : va_rf (f j) = v) (hdg : decode cc pc = .ok (.aaload, 1))
    (kk : W p l e R s m args below meth c H locs cells slots Q (F0 m (pc + 1) ls (v :: rest))) : W p l e R s m args below meth c H locs cells slots Q (F0 m pc ls (.int i :: .ref (ad k) :: rest)) := by
  obtain ⟨hx, hb, hml, hown, hts⟩ := S
  subst hi
  obtain ⟨h1, h2⟩ := z_inj hj hN
  refine va_aldq (D := D) (C := C) hx hb hE.1.1 hW.1 k t0 (by rw [wL_get hk, he]) ht h1 hdg ?_
  rw [h2, hv]
  exact kk
theorem z_alen (S : CallFix p m c cc nL s args Ts own) (hE : ZEnv D cy sa A s) (hW : WS D n ad ce A s.heap H locs) {k : Nat} (hk : k < n) {N : Nat} {f : Nat → Int32} (he : ce k = .inl (cy 0, N, .inl f)) {v : Int32} (hv : Int32.ofNat N = v) (hdg : decode cc pc = .ok (.arraylength, 1))
    (kk : W p l e R s m args below meth c H locs cells slots Q (F0 m (pc + 1) ls (.int v :: rest))) : W p l e R s m args below meth c H locs cells slots Q (F0 m pc ls (.ref (ad k) :: rest)) := by
  obtain ⟨hx, hb, hml, hown, hts⟩ := S
  exact va_alen (D := D) hx hb hE.1.1 hW.1 k 0 (by rw [wL_get hk, he]) rfl hv hdg kk
theorem z_mmax {index : Nat} {x y : Int32} (S : CallFix p m c cc nL s args Ts own) (hz : ls.size = nL) (hlink : (Cond.methodLink own index Lib.Math.max.name).before args s = true) (hstat : (Cond.static Lib.Math.max.name).before args s = true) (hini : (Cond.initialized "java/lang/Math").before args s = true) (hcode : (Cond.code Lib.Math.max.name Lib.Math.max.code 2 (some .int)).before args s = true) (hr : 1 ≤ R.frames ∧ (rest.map fun v => v.category).sum + 13 ≤ R.locals ∧ cells ≤ R.cells ∧ slots ≤ R.slots) (hdg : decode cc pc = .ok (.invokestatic index, 3)) {v : Int32} (hv : (if x < y then y else x) = v)
    (kk : W p l e R s m args below meth c H locs cells slots Q (F0 m (pc + 3) ls (.int v :: rest))) : W p l e R s m args below meth c H locs cells slots Q (F0 m pc ls (.int y :: .int x :: rest)) := by
  obtain ⟨hx, hb, hml, hown, hts⟩ := S
  exact va_mmax hx hb (by rw [hml, hz]) hown hlink hstat hini hcode hr.1 hr.2.1 hr.2.2.1 hr.2.2.2 hdg (by rw [hv]; exact kk)
theorem z_mmin {index : Nat} {x y : Int32} (S : CallFix p m c cc nL s args Ts own) (hz : ls.size = nL) (hlink : (Cond.methodLink own index Lib.Math.min.name).before args s = true) (hstat : (Cond.static Lib.Math.min.name).before args s = true) (hini : (Cond.initialized "java/lang/Math").before args s = true) (hcode : (Cond.code Lib.Math.min.name Lib.Math.min.code 2 (some .int)).before args s = true) (hr : 1 ≤ R.frames ∧ (rest.map fun v => v.category).sum + 13 ≤ R.locals ∧ cells ≤ R.cells ∧ slots ≤ R.slots) (hdg : decode cc pc = .ok (.invokestatic index, 3)) {v : Int32} (hv : (if y < x then y else x) = v)
    (kk : W p l e R s m args below meth c H locs cells slots Q (F0 m (pc + 3) ls (.int v :: rest))) : W p l e R s m args below meth c H locs cells slots Q (F0 m pc ls (.int y :: .int x :: rest)) := by
  obtain ⟨hx, hb, hml, hown, hts⟩ := S
  exact va_mmin hx hb (by rw [hml, hz]) hown hlink hstat hini hcode hr.1 hr.2.1 hr.2.2.1 hr.2.2.2 hdg (by rw [hv]; exact kk)
theorem z_mabs {index : Nat} {x : Int32} (S : CallFix p m c cc nL s args Ts own) (hz : ls.size = nL) (hlink : (Cond.methodLink own index Lib.Math.abs.name).before args s = true) (hstat : (Cond.static Lib.Math.abs.name).before args s = true) (hini : (Cond.initialized "java/lang/Math").before args s = true) (hcode : (Cond.code Lib.Math.abs.name Lib.Math.abs.code 1 (some .int)).before args s = true) (hr : 1 ≤ R.frames ∧ (rest.map fun v => v.category).sum + 13 ≤ R.locals ∧ cells ≤ R.cells ∧ slots ≤ R.slots) (hdg : decode cc pc = .ok (.invokestatic index, 3)) {v : Int32} (hv : (if 0 ≤ x then x else 0 - x) = v)
    (kk : W p l e R s m args below meth c H locs cells slots Q (F0 m (pc + 3) ls (.int v :: rest))) : W p l e R s m args below meth c H locs cells slots Q (F0 m pc ls (.int x :: rest)) := by
  obtain ⟨hx, hb, hml, hown, hts⟩ := S
  exact va_mabs hx hb (by rw [hml, hz]) hown hlink hstat hini hcode hr.1 hr.2.1 hr.2.2.1 hr.2.2.2 hdg (by rw [hv]; exact kk)
/-- ends -/
theorem ze_i {St : Type} {post : Int32 → St → Prop} {ceF : St → Nat → va_E} {mc ms : Nat} {v : Int32} (S : CallFix p m c cc nL s args Ts own) (hW : WS D n ad ce (Acc n ad s.heap.size) s.heap H locs) (hr : meth.sig.returnType = some .int) (hlk : meth.locks = false) (u : St) (he : ce = ceF u) (hp : post v u) (h1 : cells ≤ mc) (h2 : slots ≤ ms) (hdg : decode cc pc = .ok (.ireturn, 1)) :
    W p l e R s m args below meth c H locs cells slots (MQ below (QWi D n ad s.heap.size post ceF) args s mc ms (Acc n ad s.heap.size)) (F0 m pc ls [.int v]) := by
  subst he
  refine W.widen h1 h2 ?_
  exact W.iret S.1 S.2.1 hr (fun t ht _ => ⟨⟨v, u, rfl, hp, by show va_P D vwCl _ t.heap; rw [ht]; exact hW.1⟩, hW.2.2.F ht⟩) hW.2.2.2.2 hdg hlk
theorem ze_z {St : Type} {post : Int32 → St → Prop} {ceF : St → Nat → va_E} {mc ms : Nat} {v : Int32} (S : CallFix p m c cc nL s args Ts own) (hW : WS D n ad ce (Acc n ad s.heap.size) s.heap H locs) (hr : meth.sig.returnType = some .boolean) (hlk : meth.locks = false) (u : St) (he : ce = ceF u) (hb : v = 0 ∨ v = 1) (hp : post v u) (h1 : cells ≤ mc) (h2 : slots ≤ ms) (hdg : decode cc pc = .ok (.ireturn, 1)) :
    W p l e R s m args below meth c H locs cells slots (MQ below (QWi D n ad s.heap.size post ceF) args s mc ms (Acc n ad s.heap.size)) (F0 m pc ls [.int v]) := by
  subst he
  refine W.widen h1 h2 ?_
  exact W.zret S.1 S.2.1 hr (by rcases hb with rfl | rfl <;> decide) (fun t ht _ => ⟨⟨v, u, rfl, hp, by show va_P D vwCl _ t.heap; rw [ht]; exact hW.1⟩, hW.2.2.F ht⟩) hW.2.2.2.2 hdg hlk
theorem ze_l {St : Type} {post : Int64 → St → Prop} {ceF : St → Nat → va_E} {mc ms : Nat} {v : Int64} (S : CallFix p m c cc nL s args Ts own) (hW : WS D n ad ce (Acc n ad s.heap.size) s.heap H locs) (hr : meth.sig.returnType = some .long) (hlk : meth.locks = false) (u : St) (he : ce = ceF u) (hp : post v u) (h1 : cells ≤ mc) (h2 : slots ≤ ms) (hdg : decode cc pc = .ok (.lreturn, 1)) :
    W p l e R s m args below meth c H locs cells slots (MQ below (QWl D n ad s.heap.size post ceF) args s mc ms (Acc n ad s.heap.size)) (F0 m pc ls [.long v]) := by
  subst he
  refine W.widen h1 h2 ?_
  exact W.lret S.1 S.2.1 hr (fun t ht _ => ⟨⟨v, u, rfl, hp, by show va_P D vwCl _ t.heap; rw [ht]; exact hW.1⟩, hW.2.2.F ht⟩) hW.2.2.2.2 hdg hlk
theorem ze_v {St : Type} {post : St → Prop} {ceF : St → Nat → va_E} {mc ms : Nat} (S : CallFix p m c cc nL s args Ts own) (hW : WS D n ad ce (Acc n ad s.heap.size) s.heap H locs) (hr : meth.sig.returnType = none) (hlk : meth.locks = false) (u : St) (he : ce = ceF u) (hp : post u) (h1 : cells ≤ mc) (h2 : slots ≤ ms) (hdg : decode cc pc = .ok (.return_, 1)) :
    W p l e R s m args below meth c H locs cells slots (MQ below (QWv D n ad s.heap.size post ceF) args s mc ms (Acc n ad s.heap.size)) (F0 m pc ls []) := by
  subst he
  refine W.widen h1 h2 ?_
  exact W.vret S.1 S.2.1 hr (fun t ht _ => ⟨⟨u, rfl, hp, by show va_P D vwCl _ t.heap; rw [ht]; exact hW.1⟩, hW.2.2.F ht⟩) hW.2.2.2.2 hdg hlk
theorem ze_p {mc ms : Nat} {v w : Int32} (S : CallFix p m c cc nL s args Ts own) (hr : meth.sig.returnType = some .int) (hlk : meth.locks = false) (hp : v = w) (hdg : decode cc pc = .ok (.ireturn, 1)) :
    W p l e R s m args below meth c s.heap [] mc ms (MQ below (QP w) args s mc ms (fun _ => False)) (F0 m pc ls [.int v]) := by
  subst hp
  exact W.iret S.1 S.2.1 hr (fun t ht _ => ⟨⟨v, (), rfl, rfl, trivial⟩, (va_S.rf (A := fun _ => False) (H0 := s.heap)).F ht⟩) (fun q hq => absurd hq List.not_mem_nil) hdg hlk
theorem ze_pz {mc ms : Nat} {v w : Int32} (S : CallFix p m c cc nL s args Ts own) (hr : meth.sig.returnType = some .boolean) (hlk : meth.locks = false) (hb : v = 0 ∨ v = 1) (hp : v = w) (hdg : decode cc pc = .ok (.ireturn, 1)) :
    W p l e R s m args below meth c s.heap [] mc ms (MQ below (QP w) args s mc ms (fun _ => False)) (F0 m pc ls [.int v]) := by
  subst hp
  exact W.zret S.1 S.2.1 hr (by rcases hb with rfl | rfl <;> decide) (fun t ht _ => ⟨⟨v, (), rfl, rfl, trivial⟩, (va_S.rf (A := fun _ => False) (H0 := s.heap)).F ht⟩) (fun q hq => absurd hq List.not_mem_nil) hdg hlk
theorem ze_pl {mc ms : Nat} {v w : Int64} (S : CallFix p m c cc nL s args Ts own) (hr : meth.sig.returnType = some .long) (hlk : meth.locks = false) (hp : v = w) (hdg : decode cc pc = .ok (.lreturn, 1)) :
    W p l e R s m args below meth c s.heap [] mc ms (MQ below (QPl w) args s mc ms (fun _ => False)) (F0 m pc ls [.long v]) := by
  subst hp
  exact W.lret S.1 S.2.1 hr (fun t ht _ => ⟨⟨v, (), rfl, rfl, trivial⟩, (va_S.rf (A := fun _ => False) (H0 := s.heap)).F ht⟩) (fun q hq => absurd hq List.not_mem_nil) hdg hlk
end ZR
section ZC
variable {p : Program} {l : Launch} {e : Env} {R : Room} {s : State} {m : MethodId} {args : Array Value} {below : List Frame} {meth : Method} {c : Code} {H : Heap} {locs : List Loc} {cells slots : Nat} {Q : State → Prop}
variable {cc : ByteArray} {nL : Nat} {Ts : List Cond} {own : String} {pc : Nat} {ls : Array Slot} {rest st0 : List Value} {D : va_G} {n : Nat} {ad cy sa : Nat → Nat} {ce : Nat → va_E} {A : Nat → Prop}
variable {y : MethodName} {bytes : ByteArray} {maxL mc ms N index : Nat} {ret : Option FieldType} {ws : List Cond} {rm : Room} {C host : String} {As : List Value} {St : Type} {ceF : St → Nat → va_E} {k ci : Nat} {fs : List Value} {q : vw_C} {bad : String → Prop}
/-- a receiver of the world -/
theorem z_recv (hE : ZEnv D cy sa A s) (hW : WS D n ad ce A s.heap H locs) (hk : k < n) (he : ce k = .inr (ci, fs)) (hc : vwCl[ci]? = some q) : ∃ cell : Cell, H[ad k]? = some cell ∧ cell.vm.isStatics = false ∧ s.vm.findClass q.1 = some cell.cls :=
  va_recv (q0 := k) hE.1.1 hW.1 hc (by rw [wL_get hk, he])
theorem z_cVi {post : Int32 → St → Prop} (S : CallFix p m c cc nL s args Ts own) (hE : ZEnv D cy sa A s) (hW : WS D n ad ce A s.heap H locs) (hM : Met l y ws rm (PW D n ad cy sa H.size ce (.ref (ad k) :: As)) (QWi D n ad H.size post ceF) mc ms (Acc n ad H.size)) (cw : CallW R s args own C index y bytes maxL ret ws rm mc ms N) (hk : k < n) (he : ce k = .inr (ci, fs)) (hc : vwCl[ci]? = some q) (hq : q.1 = C) (hn : As.length = N) (hz : ls.size = nL) (hst : st0 = As.reverse ++ .ref (ad k) :: rest) (hr : (rest.map fun v => v.category).sum ≤ 8) (hdg : decode cc pc = .ok (.invokevirtual index, 3)) (hf : cells + mc ≤ R.cells ∧ slots + ms ≤ R.slots)
    (kk : ∀ (r : Int32) (u : St) (H1 : Heap) (locs1 : List Loc), post r u → WS D n ad (ceF u) A s.heap H1 locs1 → W p l e R s m args below meth c H1 locs1 (cells + mc) (slots + ms) Q (F0 m (pc + 3) ls (.int r :: rest))) : W p l e R s m args below meth c H locs cells slots Q (F0 m pc ls st0) :=
  va_calli (va_runV (As := As) (rest := rest) S hM cw ⟨PW_blind, by rw [← hq]; exact z_recv hE hW hk he hc, PW_at hE hW⟩ rfl hn hz hst (lv_room hr) hdg hf) hW.2.2 (fun q _ h => hW.acc hE.2 q h) (hW.acc hE.2) (fun r u t H1 locs1 ht hvm hp hB hz1 hk1 hS1 => kk r u H1 locs1 hp ⟨by rw [← ht]; exact hB, wL_D hW.2.1, hS1⟩)
theorem z_xVi {post : Int32 → St → Prop} (S : CallFix p m c cc nL s args Ts own) (hE : ZEnv D cy sa A s) (hW : WS D n ad ce A s.heap H locs) (hM : vx_Met l y ws rm (PW D n ad cy sa H.size ce (.ref (ad k) :: As)) (QWi D n ad H.size post ceF) (XW D n ad H.size bad ce) mc ms (Acc n ad H.size)) (cw : CallW R s args own C index y bytes maxL ret ws rm mc ms N) (hk : k < n) (he : ce k = .inr (ci, fs)) (hc : vwCl[ci]? = some q) (hq : q.1 = C) (hn : As.length = N) (hz : ls.size = nL) (hst : st0 = As.reverse ++ .ref (ad k) :: rest) (hr : (rest.map fun v => v.category).sum ≤ 8) (hdg : decode cc pc = .ok (.invokevirtual index, 3)) (hf : cells + mc ≤ R.cells ∧ slots + ms ≤ R.slots)
    (kx : ∀ (E : String) (x9 : Cell) (q9 : Addr) (H1 : Heap) (locs1 : List Loc), bad E → WS D n ad ce A s.heap H1 locs1 → H1[q9]? = some x9 → x9.vm = .none → s.vm.findClass E = some x9.cls → vx_W p l e R s m args below meth c H1 locs1 (cells + mc) (slots + ms) Q (F0 m pc ls rest) q9)
    (kk : ∀ (r : Int32) (u : St) (H1 : Heap) (locs1 : List Loc), post r u → WS D n ad (ceF u) A s.heap H1 locs1 → W p l e R s m args below meth c H1 locs1 (cells + mc) (slots + ms) Q (F0 m (pc + 3) ls (.int r :: rest))) : W p l e R s m args below meth c H locs cells slots Q (F0 m pc ls st0) :=
  vx_calli (vx_runV (As := As) (rest := rest) S hM cw ⟨PW_blind, by rw [← hq]; exact z_recv hE hW hk he hc, PW_at hE hW⟩ rfl hn hz hst (lv_room hr) hdg hf) hW.2.2 (fun q _ h => hW.acc hE.2 q h) (hW.acc hE.2) (fun q _ h => hW.acc hE.2 q h) (fun E x9 q9 u t H1 locs1 ht hvm hp hB hz1 hk1 hS1 h1 h2 h3 => kx E x9 q9 H1 locs1 hB.1 ⟨by rw [← ht]; exact hB.2, wL_D hW.2.1, hS1⟩ h1 h2 h3) (fun r u t H1 locs1 ht hvm hp hB hz1 hk1 hS1 => kk r u H1 locs1 hp ⟨by rw [← ht]; exact hB, wL_D hW.2.1, hS1⟩)
theorem z_cVNi {post : Int32 → St → Prop} (S : CallFix p m c cc nL s args Ts own) (hE : ZEnv D cy sa A s) (hW : WS D n ad ce A s.heap H locs) (hM : Met l y ws rm (PW D n ad cy sa H.size ce (.ref (ad k) :: As)) (QWi D n ad H.size post ceF) mc ms (Acc n ad H.size)) (cw : va_CN R s args own index y host bytes maxL ret ws rm mc ms N ∧ (Cond.instanceMethod y).before args s = true ∧ (Cond.selects C y y).before args s = true) (hk : k < n) (he : ce k = .inr (ci, fs)) (hc : vwCl[ci]? = some q) (hq : q.1 = C) (hn : As.length = N) (hz : ls.size = nL) (hst : st0 = As.reverse ++ .ref (ad k) :: rest) (hr : (rest.map fun v => v.category).sum ≤ 8) (hdg : decode cc pc = .ok (.invokevirtual index, 3)) (hf : cells + mc ≤ R.cells ∧ slots + ms ≤ R.slots)
    (kk : ∀ (r : Int32) (u : St) (H1 : Heap) (locs1 : List Loc), post r u → WS D n ad (ceF u) A s.heap H1 locs1 → W p l e R s m args below meth c H1 locs1 (cells + mc) (slots + ms) Q (F0 m (pc + 3) ls (.int r :: rest))) : W p l e R s m args below meth c H locs cells slots Q (F0 m pc ls st0) :=
  va_calli (va_runVN (As := As) (rest := rest) S hM cw ⟨PW_blind, by rw [← hq]; exact z_recv hE hW hk he hc, PW_at hE hW⟩ rfl hn hz hst (lv_room hr) hdg hf) hW.2.2 (fun q _ h => hW.acc hE.2 q h) (hW.acc hE.2) (fun r u t H1 locs1 ht hvm hp hB hz1 hk1 hS1 => kk r u H1 locs1 hp ⟨by rw [← ht]; exact hB, wL_D hW.2.1, hS1⟩)
theorem z_cSi {post : Int32 → St → Prop} (S : CallFix p m c cc nL s args Ts own) (hE : ZEnv D cy sa A s) (hW : WS D n ad ce A s.heap H locs) (hM : Met l y ws rm (PW D n ad cy sa H.size ce As) (QWi D n ad H.size post ceF) mc ms (Acc n ad H.size)) (cw : CallB R s args own index y bytes maxL ret ws rm mc ms N ∧ (Cond.static y).before args s = true) (hn : As.length = N) (hz : ls.size = nL) (hst : st0 = As.reverse ++ rest) (hr : (rest.map fun v => v.category).sum ≤ 8) (hdg : decode cc pc = .ok (.invokestatic index, 3)) (hf : cells + mc ≤ R.cells ∧ slots + ms ≤ R.slots)
    (kk : ∀ (r : Int32) (u : St) (H1 : Heap) (locs1 : List Loc), post r u → WS D n ad (ceF u) A s.heap H1 locs1 → W p l e R s m args below meth c H1 locs1 (cells + mc) (slots + ms) Q (F0 m (pc + 3) ls (.int r :: rest))) : W p l e R s m args below meth c H locs cells slots Q (F0 m pc ls st0) :=
  va_calli (va_runS (As := As) (rest := rest) S hM cw ⟨PW_blind, PW_at hE hW⟩ rfl hn hz hst (lv_room hr) hdg hf) hW.2.2 (fun q _ h => hW.acc hE.2 q h) (hW.acc hE.2) (fun r u t H1 locs1 ht hvm hp hB hz1 hk1 hS1 => kk r u H1 locs1 hp ⟨by rw [← ht]; exact hB, wL_D hW.2.1, hS1⟩)
theorem z_cVl {post : Int64 → St → Prop} (S : CallFix p m c cc nL s args Ts own) (hE : ZEnv D cy sa A s) (hW : WS D n ad ce A s.heap H locs) (hM : Met l y ws rm (PW D n ad cy sa H.size ce (.ref (ad k) :: As)) (QWl D n ad H.size post ceF) mc ms (Acc n ad H.size)) (cw : CallW R s args own C index y bytes maxL ret ws rm mc ms N) (hk : k < n) (he : ce k = .inr (ci, fs)) (hc : vwCl[ci]? = some q) (hq : q.1 = C) (hn : As.length = N) (hz : ls.size = nL) (hst : st0 = As.reverse ++ .ref (ad k) :: rest) (hr : (rest.map fun v => v.category).sum ≤ 8) (hdg : decode cc pc = .ok (.invokevirtual index, 3)) (hf : cells + mc ≤ R.cells ∧ slots + ms ≤ R.slots)
    (kk : ∀ (r : Int64) (u : St) (H1 : Heap) (locs1 : List Loc), post r u → WS D n ad (ceF u) A s.heap H1 locs1 → W p l e R s m args below meth c H1 locs1 (cells + mc) (slots + ms) Q (F0 m (pc + 3) ls (.long r :: rest))) : W p l e R s m args below meth c H locs cells slots Q (F0 m pc ls st0) :=
  va_calll (va_runV (As := As) (rest := rest) S hM cw ⟨PW_blind, by rw [← hq]; exact z_recv hE hW hk he hc, PW_at hE hW⟩ rfl hn hz hst (lv_room hr) hdg hf) hW.2.2 (fun q _ h => hW.acc hE.2 q h) (hW.acc hE.2) (fun r u t H1 locs1 ht hvm hp hB hz1 hk1 hS1 => kk r u H1 locs1 hp ⟨by rw [← ht]; exact hB, wL_D hW.2.1, hS1⟩)
theorem z_xVl {post : Int64 → St → Prop} (S : CallFix p m c cc nL s args Ts own) (hE : ZEnv D cy sa A s) (hW : WS D n ad ce A s.heap H locs) (hM : vx_Met l y ws rm (PW D n ad cy sa H.size ce (.ref (ad k) :: As)) (QWl D n ad H.size post ceF) (XW D n ad H.size bad ce) mc ms (Acc n ad H.size)) (cw : CallW R s args own C index y bytes maxL ret ws rm mc ms N) (hk : k < n) (he : ce k = .inr (ci, fs)) (hc : vwCl[ci]? = some q) (hq : q.1 = C) (hn : As.length = N) (hz : ls.size = nL) (hst : st0 = As.reverse ++ .ref (ad k) :: rest) (hr : (rest.map fun v => v.category).sum ≤ 8) (hdg : decode cc pc = .ok (.invokevirtual index, 3)) (hf : cells + mc ≤ R.cells ∧ slots + ms ≤ R.slots)
    (kx : ∀ (E : String) (x9 : Cell) (q9 : Addr) (H1 : Heap) (locs1 : List Loc), bad E → WS D n ad ce A s.heap H1 locs1 → H1[q9]? = some x9 → x9.vm = .none → s.vm.findClass E = some x9.cls → vx_W p l e R s m args below meth c H1 locs1 (cells + mc) (slots + ms) Q (F0 m pc ls rest) q9)
    (kk : ∀ (r : Int64) (u : St) (H1 : Heap) (locs1 : List Loc), post r u → WS D n ad (ceF u) A s.heap H1 locs1 → W p l e R s m args below meth c H1 locs1 (cells + mc) (slots + ms) Q (F0 m (pc + 3) ls (.long r :: rest))) : W p l e R s m args below meth c H locs cells slots Q (F0 m pc ls st0) :=
  vx_calll (vx_runV (As := As) (rest := rest) S hM cw ⟨PW_blind, by rw [← hq]; exact z_recv hE hW hk he hc, PW_at hE hW⟩ rfl hn hz hst (lv_room hr) hdg hf) hW.2.2 (fun q _ h => hW.acc hE.2 q h) (hW.acc hE.2) (fun q _ h => hW.acc hE.2 q h) (fun E x9 q9 u t H1 locs1 ht hvm hp hB hz1 hk1 hS1 h1 h2 h3 => kx E x9 q9 H1 locs1 hB.1 ⟨by rw [← ht]; exact hB.2, wL_D hW.2.1, hS1⟩ h1 h2 h3) (fun r u t H1 locs1 ht hvm hp hB hz1 hk1 hS1 => kk r u H1 locs1 hp ⟨by rw [← ht]; exact hB, wL_D hW.2.1, hS1⟩)
theorem z_cVNl {post : Int64 → St → Prop} (S : CallFix p m c cc nL s args Ts own) (hE : ZEnv D cy sa A s) (hW : WS D n ad ce A s.heap H locs) (hM : Met l y ws rm (PW D n ad cy sa H.size ce (.ref (ad k) :: As)) (QWl D n ad H.size post ceF) mc ms (Acc n ad H.size)) (cw : va_CN R s args own index y host bytes maxL ret ws rm mc ms N ∧ (Cond.instanceMethod y).before args s = true ∧ (Cond.selects C y y).before args s = true) (hk : k < n) (he : ce k = .inr (ci, fs)) (hc : vwCl[ci]? = some q) (hq : q.1 = C) (hn : As.length = N) (hz : ls.size = nL) (hst : st0 = As.reverse ++ .ref (ad k) :: rest) (hr : (rest.map fun v => v.category).sum ≤ 8) (hdg : decode cc pc = .ok (.invokevirtual index, 3)) (hf : cells + mc ≤ R.cells ∧ slots + ms ≤ R.slots)
    (kk : ∀ (r : Int64) (u : St) (H1 : Heap) (locs1 : List Loc), post r u → WS D n ad (ceF u) A s.heap H1 locs1 → W p l e R s m args below meth c H1 locs1 (cells + mc) (slots + ms) Q (F0 m (pc + 3) ls (.long r :: rest))) : W p l e R s m args below meth c H locs cells slots Q (F0 m pc ls st0) :=
  va_calll (va_runVN (As := As) (rest := rest) S hM cw ⟨PW_blind, by rw [← hq]; exact z_recv hE hW hk he hc, PW_at hE hW⟩ rfl hn hz hst (lv_room hr) hdg hf) hW.2.2 (fun q _ h => hW.acc hE.2 q h) (hW.acc hE.2) (fun r u t H1 locs1 ht hvm hp hB hz1 hk1 hS1 => kk r u H1 locs1 hp ⟨by rw [← ht]; exact hB, wL_D hW.2.1, hS1⟩)
theorem z_cSl {post : Int64 → St → Prop} (S : CallFix p m c cc nL s args Ts own) (hE : ZEnv D cy sa A s) (hW : WS D n ad ce A s.heap H locs) (hM : Met l y ws rm (PW D n ad cy sa H.size ce As) (QWl D n ad H.size post ceF) mc ms (Acc n ad H.size)) (cw : CallB R s args own index y bytes maxL ret ws rm mc ms N ∧ (Cond.static y).before args s = true) (hn : As.length = N) (hz : ls.size = nL) (hst : st0 = As.reverse ++ rest) (hr : (rest.map fun v => v.category).sum ≤ 8) (hdg : decode cc pc = .ok (.invokestatic index, 3)) (hf : cells + mc ≤ R.cells ∧ slots + ms ≤ R.slots)
    (kk : ∀ (r : Int64) (u : St) (H1 : Heap) (locs1 : List Loc), post r u → WS D n ad (ceF u) A s.heap H1 locs1 → W p l e R s m args below meth c H1 locs1 (cells + mc) (slots + ms) Q (F0 m (pc + 3) ls (.long r :: rest))) : W p l e R s m args below meth c H locs cells slots Q (F0 m pc ls st0) :=
  va_calll (va_runS (As := As) (rest := rest) S hM cw ⟨PW_blind, PW_at hE hW⟩ rfl hn hz hst (lv_room hr) hdg hf) hW.2.2 (fun q _ h => hW.acc hE.2 q h) (hW.acc hE.2) (fun r u t H1 locs1 ht hvm hp hB hz1 hk1 hS1 => kk r u H1 locs1 hp ⟨by rw [← ht]; exact hB, wL_D hW.2.1, hS1⟩)
theorem z_cVv {post : St → Prop} (S : CallFix p m c cc nL s args Ts own) (hE : ZEnv D cy sa A s) (hW : WS D n ad ce A s.heap H locs) (hM : Met l y ws rm (PW D n ad cy sa H.size ce (.ref (ad k) :: As)) (QWv D n ad H.size post ceF) mc ms (Acc n ad H.size)) (cw : CallW R s args own C index y bytes maxL ret ws rm mc ms N) (hk : k < n) (he : ce k = .inr (ci, fs)) (hc : vwCl[ci]? = some q) (hq : q.1 = C) (hn : As.length = N) (hz : ls.size = nL) (hst : st0 = As.reverse ++ .ref (ad k) :: rest) (hr : (rest.map fun v => v.category).sum ≤ 8) (hdg : decode cc pc = .ok (.invokevirtual index, 3)) (hf : cells + mc ≤ R.cells ∧ slots + ms ≤ R.slots)
    (kk : ∀ (u : St) (H1 : Heap) (locs1 : List Loc), post u → WS D n ad (ceF u) A s.heap H1 locs1 → W p l e R s m args below meth c H1 locs1 (cells + mc) (slots + ms) Q (F0 m (pc + 3) ls (rest))) : W p l e R s m args below meth c H locs cells slots Q (F0 m pc ls st0) :=
  va_callv (va_runV (As := As) (rest := rest) S hM cw ⟨PW_blind, by rw [← hq]; exact z_recv hE hW hk he hc, PW_at hE hW⟩ rfl hn hz hst (lv_room hr) hdg hf) hW.2.2 (fun q _ h => hW.acc hE.2 q h) (hW.acc hE.2) (fun u t H1 locs1 ht hvm hp hB hz1 hk1 hS1 => kk u H1 locs1 hp ⟨by rw [← ht]; exact hB, wL_D hW.2.1, hS1⟩)
theorem z_xVv {post : St → Prop} (S : CallFix p m c cc nL s args Ts own) (hE : ZEnv D cy sa A s) (hW : WS D n ad ce A s.heap H locs) (hM : vx_Met l y ws rm (PW D n ad cy sa H.size ce (.ref (ad k) :: As)) (QWv D n ad H.size post ceF) (XW D n ad H.size bad ce) mc ms (Acc n ad H.size)) (cw : CallW R s args own C index y bytes maxL ret ws rm mc ms N) (hk : k < n) (he : ce k = .inr (ci, fs)) (hc : vwCl[ci]? = some q) (hq : q.1 = C) (hn : As.length = N) (hz : ls.size = nL) (hst : st0 = As.reverse ++ .ref (ad k) :: rest) (hr : (rest.map fun v => v.category).sum ≤ 8) (hdg : decode cc pc = .ok (.invokevirtual index, 3)) (hf : cells + mc ≤ R.cells ∧ slots + ms ≤ R.slots)
    (kx : ∀ (E : String) (x9 : Cell) (q9 : Addr) (H1 : Heap) (locs1 : List Loc), bad E → WS D n ad ce A s.heap H1 locs1 → H1[q9]? = some x9 → x9.vm = .none → s.vm.findClass E = some x9.cls → vx_W p l e R s m args below meth c H1 locs1 (cells + mc) (slots + ms) Q (F0 m pc ls rest) q9)
    (kk : ∀ (u : St) (H1 : Heap) (locs1 : List Loc), post u → WS D n ad (ceF u) A s.heap H1 locs1 → W p l e R s m args below meth c H1 locs1 (cells + mc) (slots + ms) Q (F0 m (pc + 3) ls (rest))) : W p l e R s m args below meth c H locs cells slots Q (F0 m pc ls st0) :=
  vx_callv (vx_runV (As := As) (rest := rest) S hM cw ⟨PW_blind, by rw [← hq]; exact z_recv hE hW hk he hc, PW_at hE hW⟩ rfl hn hz hst (lv_room hr) hdg hf) hW.2.2 (fun q _ h => hW.acc hE.2 q h) (hW.acc hE.2) (fun q _ h => hW.acc hE.2 q h) (fun E x9 q9 u t H1 locs1 ht hvm hp hB hz1 hk1 hS1 h1 h2 h3 => kx E x9 q9 H1 locs1 hB.1 ⟨by rw [← ht]; exact hB.2, wL_D hW.2.1, hS1⟩ h1 h2 h3) (fun u t H1 locs1 ht hvm hp hB hz1 hk1 hS1 => kk u H1 locs1 hp ⟨by rw [← ht]; exact hB, wL_D hW.2.1, hS1⟩)
theorem z_cVNv {post : St → Prop} (S : CallFix p m c cc nL s args Ts own) (hE : ZEnv D cy sa A s) (hW : WS D n ad ce A s.heap H locs) (hM : Met l y ws rm (PW D n ad cy sa H.size ce (.ref (ad k) :: As)) (QWv D n ad H.size post ceF) mc ms (Acc n ad H.size)) (cw : va_CN R s args own index y host bytes maxL ret ws rm mc ms N ∧ (Cond.instanceMethod y).before args s = true ∧ (Cond.selects C y y).before args s = true) (hk : k < n) (he : ce k = .inr (ci, fs)) (hc : vwCl[ci]? = some q) (hq : q.1 = C) (hn : As.length = N) (hz : ls.size = nL) (hst : st0 = As.reverse ++ .ref (ad k) :: rest) (hr : (rest.map fun v => v.category).sum ≤ 8) (hdg : decode cc pc = .ok (.invokevirtual index, 3)) (hf : cells + mc ≤ R.cells ∧ slots + ms ≤ R.slots)
    (kk : ∀ (u : St) (H1 : Heap) (locs1 : List Loc), post u → WS D n ad (ceF u) A s.heap H1 locs1 → W p l e R s m args below meth c H1 locs1 (cells + mc) (slots + ms) Q (F0 m (pc + 3) ls (rest))) : W p l e R s m args below meth c H locs cells slots Q (F0 m pc ls st0) :=
  va_callv (va_runVN (As := As) (rest := rest) S hM cw ⟨PW_blind, by rw [← hq]; exact z_recv hE hW hk he hc, PW_at hE hW⟩ rfl hn hz hst (lv_room hr) hdg hf) hW.2.2 (fun q _ h => hW.acc hE.2 q h) (hW.acc hE.2) (fun u t H1 locs1 ht hvm hp hB hz1 hk1 hS1 => kk u H1 locs1 hp ⟨by rw [← ht]; exact hB, wL_D hW.2.1, hS1⟩)
theorem z_cSv {post : St → Prop} (S : CallFix p m c cc nL s args Ts own) (hE : ZEnv D cy sa A s) (hW : WS D n ad ce A s.heap H locs) (hM : Met l y ws rm (PW D n ad cy sa H.size ce As) (QWv D n ad H.size post ceF) mc ms (Acc n ad H.size)) (cw : CallB R s args own index y bytes maxL ret ws rm mc ms N ∧ (Cond.static y).before args s = true) (hn : As.length = N) (hz : ls.size = nL) (hst : st0 = As.reverse ++ rest) (hr : (rest.map fun v => v.category).sum ≤ 8) (hdg : decode cc pc = .ok (.invokestatic index, 3)) (hf : cells + mc ≤ R.cells ∧ slots + ms ≤ R.slots)
    (kk : ∀ (u : St) (H1 : Heap) (locs1 : List Loc), post u → WS D n ad (ceF u) A s.heap H1 locs1 → W p l e R s m args below meth c H1 locs1 (cells + mc) (slots + ms) Q (F0 m (pc + 3) ls (rest))) : W p l e R s m args below meth c H locs cells slots Q (F0 m pc ls st0) :=
  va_callv (va_runS (As := As) (rest := rest) S hM cw ⟨PW_blind, PW_at hE hW⟩ rfl hn hz hst (lv_room hr) hdg hf) hW.2.2 (fun q _ h => hW.acc hE.2 q h) (hW.acc hE.2) (fun u t H1 locs1 ht hvm hp hB hz1 hk1 hS1 => kk u H1 locs1 hp ⟨by rw [← ht]; exact hB, wL_D hW.2.1, hS1⟩)
/-- calls of static methods of numbers -/
theorem z_pS {v : Int32} (S : CallFix p m c cc nL s args Ts own) (hE : ZEnv D cy sa A s) (hW : WS D n ad ce A s.heap H locs) (hM : Met l y ws rm (va_Pc As (fun _ => True)) (QP v) mc ms (fun _ => False)) (cw : CallB R s args own index y bytes maxL ret ws rm mc ms N ∧ (Cond.static y).before args s = true) (hn : As.length = N) (hz : ls.size = nL) (hst : st0 = As.reverse ++ rest) (hr : (rest.map fun v => v.category).sum ≤ 8) (hdg : decode cc pc = .ok (.invokestatic index, 3)) (hf : cells + mc ≤ R.cells ∧ slots + ms ≤ R.slots)
    (kk : ∀ (H1 : Heap) (locs1 : List Loc), WS D n ad ce A s.heap H1 locs1 → W p l e R s m args below meth c H1 locs1 (cells + mc) (slots + ms) Q (F0 m (pc + 3) ls (.int v :: rest))) : W p l e R s m args below meth c H locs cells slots Q (F0 m pc ls st0) := by
  refine va_calli (va_runS (As := As) (rest := rest) S hM cw ⟨fun a U g mk q => q, fun U hU hW => ⟨rfl, trivial⟩⟩ rfl hn hz hst (lv_room hr) hdg hf) hW.2.2 (fun q _ h => h.elim) (fun q h => h.elim) (fun r u t H1 locs1 ht hvm hp hB hz1 hk1 hS1 => ?_)
  subst hp
  exact kk H1 locs1 (hW.kept (fun q hq => hk1 q hq (fun h => h)) hS1)
theorem z_pSN {v : Int32} (S : CallFix p m c cc nL s args Ts own) (hE : ZEnv D cy sa A s) (hW : WS D n ad ce A s.heap H locs) (hM : Met l y ws rm (va_Pc As (fun _ => True)) (QP v) mc ms (fun _ => False)) (cw : va_CN R s args own index y host bytes maxL ret ws rm mc ms N ∧ (Cond.static y).before args s = true ∧ True) (hn : As.length = N) (hz : ls.size = nL) (hst : st0 = As.reverse ++ rest) (hr : (rest.map fun v => v.category).sum ≤ 8) (hdg : decode cc pc = .ok (.invokestatic index, 3)) (hf : cells + mc ≤ R.cells ∧ slots + ms ≤ R.slots)
    (kk : ∀ (H1 : Heap) (locs1 : List Loc), WS D n ad ce A s.heap H1 locs1 → W p l e R s m args below meth c H1 locs1 (cells + mc) (slots + ms) Q (F0 m (pc + 3) ls (.int v :: rest))) : W p l e R s m args below meth c H locs cells slots Q (F0 m pc ls st0) := by
  refine va_calli (va_runSN (As := As) (rest := rest) S hM cw ⟨fun a U g mk q => q, fun U hU hW => ⟨rfl, trivial⟩⟩ rfl hn hz hst (lv_room hr) hdg hf) hW.2.2 (fun q _ h => h.elim) (fun q h => h.elim) (fun r u t H1 locs1 ht hvm hp hB hz1 hk1 hS1 => ?_)
  subst hp
  exact kk H1 locs1 (hW.kept (fun q hq => hk1 q hq (fun h => h)) hS1)
theorem z_pSl {v : Int64} (S : CallFix p m c cc nL s args Ts own) (hE : ZEnv D cy sa A s) (hW : WS D n ad ce A s.heap H locs) (hM : Met l y ws rm (va_Pc As (fun _ => True)) (QPl v) mc ms (fun _ => False)) (cw : CallB R s args own index y bytes maxL ret ws rm mc ms N ∧ (Cond.static y).before args s = true) (hn : As.length = N) (hz : ls.size = nL) (hst : st0 = As.reverse ++ rest) (hr : (rest.map fun v => v.category).sum ≤ 8) (hdg : decode cc pc = .ok (.invokestatic index, 3)) (hf : cells + mc ≤ R.cells ∧ slots + ms ≤ R.slots)
    (kk : ∀ (H1 : Heap) (locs1 : List Loc), WS D n ad ce A s.heap H1 locs1 → W p l e R s m args below meth c H1 locs1 (cells + mc) (slots + ms) Q (F0 m (pc + 3) ls (.long v :: rest))) : W p l e R s m args below meth c H locs cells slots Q (F0 m pc ls st0) := by
  refine va_calll (va_runS (As := As) (rest := rest) S hM cw ⟨fun a U g mk q => q, fun U hU hW => ⟨rfl, trivial⟩⟩ rfl hn hz hst (lv_room hr) hdg hf) hW.2.2 (fun q _ h => h.elim) (fun q h => h.elim) (fun r u t H1 locs1 ht hvm hp hB hz1 hk1 hS1 => ?_)
  subst hp
  exact kk H1 locs1 (hW.kept (fun q hq => hk1 q hq (fun h => h)) hS1)
end ZC
