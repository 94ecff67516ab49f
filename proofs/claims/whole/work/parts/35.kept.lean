/-! What is kept, and brought back: rows of an array of int arrays. -/
def kR (a b : Nat) : Nat → Option Nat := fun i => if i = 0 then some a else if i = 1 then some b else none
theorem wL_app {n : Nat} {ad ad' : Nat → Nat} {ce ce' : Nat → va_E} {q : Nat} {e : va_E} (h1 : ∀ k, k < n → ad' k = ad k) (h2 : ∀ k, k < n → ce' k = ce k) (h3 : ad' n = q) (h4 : ce' n = e) : wL n ad ce ++ [(q, e)] = wL (n + 1) ad' ce' := by
  unfold wL
  rw [List.range_succ, List.map_append]
  subst h3
  subst h4
  refine congrArg (fun z => z ++ _) (List.map_congr_left (fun k hk => ?_))
  have hk2 := List.mem_range.mp hk
  rw [h1 k hk2, h2 k hk2]
section ZK
variable {p : Program} {l : Launch} {e : Env} {R : Room} {s : State} {m : MethodId} {args : Array Value} {below : List Frame} {meth : Method} {c : Code} {H : Heap} {locs : List Loc} {cells slots : Nat} {Q : State → Prop}
variable {cc : ByteArray} {nL : Nat} {Ts : List Cond} {own : String} {pc : Nat} {ls : Array Slot} {rest : List Value} {D : va_G} {n : Nat} {ad ad' cy sa : Nat → Nat} {ce ce' : Nat → va_E} {A : Nat → Prop}
/-- the class of int arrays, and of their arrays -/
theorem z_overA (hE : ZEnv D cy sa A s) : ∃ kA kI : Class, s.vm.findClass "[I" = some (cy 0) ∧ s.vm.classes[cy 0]? = some kI ∧ s.vm.classes[cy 3]? = some kA ∧ kA.kind = .array (cy 0) (.array .int) ∧ s.vm.findClass ("[" ++ (FieldType.array .int).toString) = some (cy 3) := by
  obtain ⟨comp, c9, k9, f1, f2, f3, f4, f5⟩ := arrayOverA_spec hE.1.2.2.1.2.1
  have e3 : s.vm.findClass ("[" ++ (FieldType.array .int).toString) = some (cy 3) := (hE.1.1.2 3 _ rfl).2
  have e0 : s.vm.findClass (FieldType.array .int).toString = some (cy 0) := (hE.1.1.2 0 _ rfl).2
  cases Option.some.inj (f5.symm.trans e3)
  cases Option.some.inj (f1.symm.trans e0)
  obtain ⟨kI, hkI, -⟩ := Vm.findClass_spec e0
  exact ⟨k9, kI, e0, hkI, f3, f4, e3⟩
theorem z_newA {index N : Nat} (S : CallFix p m c cc nL s args Ts own) (hE : ZEnv D cy sa A s) (hW : WS D n ad ce A s.heap H locs) (hclink : (Cond.classLink own index "[I").before args s = true) {x : Int32} (hx : x = nI N) (hN : N < 2 ^ 20) (hcells : cells + 1 ≤ R.cells) (hslots : slots + N ≤ R.slots) (hdg : decode cc pc = .ok (.anewarray index, 3))
    (kk : ∀ (q : Nat) (H1 : Heap), s.heap.size ≤ q → q = H.size → va_P D vwCl (wL n ad ce ++ [(q, .inl (cy 3, N, .inr (.inr (.inr (.inr (fun _ => none))))))]) H1 → va_D A (wL n ad ce ++ [(q, .inl (cy 3, N, .inr (.inr (.inr (.inr (fun _ => none))))))]) → va_S A s.heap H1 locs →
      W p l e R s m args below meth c H1 locs (cells + 1) (slots + N) Q (F0 m (pc + 3) ls (.ref q :: rest))) : W p l e R s m args below meth c H locs cells slots Q (F0 m pc ls (.int x :: rest)) := by
  obtain ⟨hx9, hb, hml, hown, hts⟩ := S
  subst hx
  have hc : (nI N).toNatClampNeg = N := nI_clamp (by omega)
  refine W.anewA (t := .int) hx9 hb hown hclink (over_moved (Vm.Alike.refl s.vm) hE.1.2.2.1.2.1) rfl hdg rfl (nI_pos (by omega)) (by rw [hc]; omega) hcells (by rw [hc]; exact hslots) fun cA kA comp f1 f2 f3 f4 => ?_
  have e3 : s.vm.findClass ("[" ++ (FieldType.array .int).toString) = some (cy 3) := (hE.1.1.2 3 _ rfl).2
  cases Option.some.inj (f1.symm.trans e3)
  rw [hc]
  generalize hH1 : H.push ({ cls := cy 3, slots := Array.replicate N .null, vm := .none } : Cell) = H1
  have z1 : H1.size = H.size + 1 := by rw [← hH1, Array.size_push]
  have e1 : H1[H.size]? = some (arrV (cy 3) N (fun _ => .null)) := by rw [← hH1, Array.getElem?_push_size, ← arrV_new]
  have o1 : ∀ q : Nat, q < H.size → H1[q]? = H[q]? := fun q hq => by rw [← hH1, Array.getElem?_push, if_neg (Nat.ne_of_lt hq)]
  have hk : ∀ (k : Nat) (x : Nat × va_E), (wL n ad ce)[k]? = some x → H1[x.1]? = H[x.1]? := fun k x hx => o1 x.1 ((hW.1 k x hx).lt)
  refine kk H.size H1 hW.2.2.1 rfl ((hW.1.kept hk).app (fun k x hx => ?_)) (hW.2.1.push hW.1 rfl (hE.2 _ hW.2.2.1)) ⟨Nat.le_trans hW.2.2.1 (by omega), fun x h1 h2 => (o1 x (Nat.lt_of_lt_of_le h1 hW.2.2.1)).trans (hW.2.2.2.1 x h1 h2), hW.2.2.2.2⟩
  have hz : k < 1 := (List.getElem?_eq_some_iff.mp hx).1
  rw [show k = 0 by omega] at hx
  cases hx
  show H1[H.size]? = some (vp_cell _ _)
  rw [vp_cell_q]
  exact e1
theorem z_astA {k kv N : Nat} {f : Nat → Option Nat} {x : vp_A} (S : CallFix p m c cc nL s args Ts own) (hE : ZEnv D cy sa A s) (hW : WS D n ad ce A s.heap H locs) (hk : k < n) (hkv : kv < n) (he : ce k = .inl (cy 3, N, .inr (.inr (.inr (.inr f))))) (hev : ce kv = .inl (cy 0, x)) {i : Int32} (j : Nat) (hi : i = nI j) (hj : j < N) (hN : N < 2 ^ 31)
    (h1 : ce' k = .inl (cy 3, N, .inr (.inr (.inr (.inr (va_up f j (some (ad kv)))))))) (h2 : ∀ j, j ≠ k → ce' j = ce j) (hdg : decode cc pc = .ok (.aastore, 1))
    (kk : ∀ (H1 : Heap) (locs1 : List Loc), WS D n ad ce' A s.heap H1 locs1 → W p l e R s m args below meth c H1 locs1 cells slots Q (F0 m (pc + 1) ls rest)) : W p l e R s m args below meth c H locs cells slots Q (F0 m pc ls (.ref (ad kv) :: .int i :: .ref (ad k) :: rest)) := by
  obtain ⟨hx9, hb, hml, hown, hts⟩ := S
  subst hi
  have hc : (nI j).toNatClampNeg = j := nI_clamp (by omega)
  obtain ⟨kA, kI, g0, g1, g2, g3, g4⟩ := z_overA hE
  have ha : (wL n ad ce)[k]? = some (ad k, .inl (cy 3, N, .inr (.inr (.inr (.inr f))))) := by rw [wL_get hk, he]
  have hv : H[ad kv]? = some (vp_cell (cy 0) x) := hW.1 kv (ad kv, .inl (cy 0, x)) (by rw [wL_get hkv, hev])
  have hvm0 : (vp_cell (cy 0) x).vm = .none := by
    obtain ⟨n, f | f | f | f | f⟩ := x <;> rfl
  have hcl0 : (vp_cell (cy 0) x).cls = cy 0 := by
    obtain ⟨n, f | f | f | f | f⟩ := x <;> rfl
  refine W.aast hx9 hb (hW.1 k _ ha) (fun q h => by cases h) (fun h => by cases h) g2 g3 rfl g1 ⟨nI_pos (by omega), by rw [hc]; show _ < (arrV _ _ _).slots.size; rw [arrV_size]; exact hj⟩ hv (fun q h => by rw [hvm0] at h; cases h) (by rw [hcl0]; exact g1) (by rw [hcl0]; exact va_asg _ _) rfl rfl hdg fun H1 e z oq => ?_
  rw [hc] at e
  have hP : va_P D vwCl ((wL n ad ce).set k (ad k, .inl (cy 3, N, .inr (.inr (.inr (.inr (va_up f j (some (ad kv)))))))) ) H1 := by
    refine hW.1.set hW.2.1 ha ?_ oq
    show H1[ad k]? = some (vp_cell _ _)
    rw [e]
    rw [vp_cell_q, vp_cell_q, arrV_store]
    congr 2
    funext q
    by_cases hq : q = j
    · subst hq
      rw [va_up_self]
      simp [updV, va_rf]
    · rw [va_up_ne _ _ hq]
      simp [updV, hq]
  rw [wL_set h1 h2] at hP
  exact kk H1 _ ⟨hP, wL_D hW.2.1, hW.2.2.put z oq (hW.2.1.2 k _ ha)⟩
theorem z_aldA (S : CallFix p m c cc nL s args Ts own) (hE : ZEnv D cy sa A s) (hW : WS D n ad ce A s.heap H locs) {k N : Nat} (hk : k < n) {f : Nat → Option Nat} (he : ce k = .inl (cy 3, N, .inr (.inr (.inr (.inr f))))) {i : Int32} (j : Nat) (hi : i = nI j) (hj : j < N) (hN : N < 2 ^ 31) {v : Value} (hv : va_rf (f j) = v) (hdg : decode cc pc = .ok (.aaload, 1))
    (kk : W p l e R s m args below meth c H locs cells slots Q (F0 m (pc + 1) ls (v :: rest))) : W p l e R s m args below meth c H locs cells slots Q (F0 m pc ls (.int i :: .ref (ad k) :: rest)) := by
  obtain ⟨hx9, hb, hml, hown, hts⟩ := S
  subst hi
  have hc : (nI j).toNatClampNeg = j := nI_clamp (by omega)
  refine W.aald (v := v) (ty := .array .int) hx9 hb (hW.1 k (ad k, .inl (cy 3, N, .inr (.inr (.inr (.inr f))))) (by rw [wL_get hk, he])) ((hE.1.1.2 3 _ rfl).1 N (fun j => va_rf (f j))) rfl (fun q => by cases q) (by show ¬ (nI j < 0 ∨ (arrV _ _ _).slots.size ≤ _); rw [arrV_size]; exact (z_inj hj hN).1) (by rw [hc]; show (arrV _ _ _).slots[_]? = _; rw [arrV_read _ _ hj, hv]) rfl rfl hdg kk
theorem z_clone {index k N : Nat} {f : Nat → Int32} (S : CallFix p m c cc nL s args Ts own) (hE : ZEnv D cy sa A s) (hW : WS D n ad ce A s.heap H locs) (hz : ls.size = nL) (hk : k < n) (he : ce k = .inl (cy 0, N, .inl f))
    (hlink : (Cond.methodLink own index ⟨"[I", "clone", "()Ljava/lang/Object;"⟩).before args s = true) (hsame : (Cond.sameMethod "[I" "java/lang/Object" "clone" "()Ljava/lang/Object;").before args s = true)
    (hnat : (Cond.native ⟨"java/lang/Object", "clone", "()Ljava/lang/Object;"⟩).before args s = true) (hinst : (Cond.instanceMethod ⟨"java/lang/Object", "clone", "()Ljava/lang/Object;"⟩).before args s = true)
    (hsel : (Cond.selects "[I" ⟨"[I", "clone", "()Ljava/lang/Object;"⟩ ⟨"java/lang/Object", "clone", "()Ljava/lang/Object;"⟩).before args s = true)
    (hframes : 1 ≤ R.frames) (hlocals : (rest.map fun v => v.category).sum + 14 ≤ R.locals) (hcells : cells + 1 ≤ R.cells) (hslots : slots + N ≤ R.slots) (hdg : decode cc pc = .ok (.invokevirtual index, 3))
    (kk : ∀ (q : Nat) (H1 : Heap), (∀ k, k < n → q ≠ ad k) → A q → va_P D vwCl (wL n ad ce ++ [(q, .inl (cy 0, N, .inl f))]) H1 → va_D A (wL n ad ce ++ [(q, .inl (cy 0, N, .inl f))]) → va_S A s.heap H1 locs →
      W p l e R s m args below meth c H1 locs (cells + 1) (slots + N) Q (F0 m (pc + 3) ls (.ref q :: rest))) : W p l e R s m args below meth c H locs cells slots Q (F0 m pc ls (.ref (ad k) :: rest)) := by
  obtain ⟨hx9, hb, hml, hown, hts⟩ := S
  refine va_clone (D := D) (x := (N, .inl f)) hx9 hb (by rw [hml, hz]) hown hlink hsame hnat hinst hsel (hE.1.2.1.at 21 rfl) hE.1.1 hW.1 hW.2.1 hW.2.2 hE.2 k 0 (by rw [wL_get hk, he]) rfl (hE.1.1.2 0 _ rfl).2 (va_fit (fun i _ => rfl)) hframes hlocals hcells hslots hdg (fun q H1 hK hP hD hS => ?_)
  have hlast : (wL n ad ce ++ [(q, .inl (cy 0, N, .inl f))])[n]? = some (q, (.inl (cy 0, N, .inl f) : va_E)) := by
    rw [List.getElem?_append_right (by rw [wL_len]; exact Nat.le_refl n), wL_len, Nat.sub_self]; rfl
  refine kk q H1 (fun k hk e9 => ?_) (hD.2 n _ hlast) hP hD hS
  have h2 : (wL n ad ce ++ [(q, .inl (cy 0, N, .inl f))])[k]? = some (ad k, ce k) := by
    rw [List.getElem?_append_left (by rw [wL_len]; exact hk), wL_get hk]
  have := hD.1 n k _ _ hlast h2 e9
  omega
theorem z_castI2 {index k : Nat} {x : vp_A} (S : CallFix p m c cc nL s args Ts own) (hE : ZEnv D cy sa A s) (hW : WS D n ad ce A s.heap H locs) (hk : k < n) (he : ce k = .inl (cy 0, x)) (hlink : (Cond.classLink own index "[I").before args s = true) (hdg : decode cc pc = .ok (.checkcast index, 3))
    (kk : W p l e R s m args below meth c H locs cells slots Q (F0 m (pc + 3) ls (.ref (ad k) :: rest))) : W p l e R s m args below meth c H locs cells slots Q (F0 m pc ls (.ref (ad k) :: rest)) := by
  obtain ⟨hx9, hb, hml, hown, hts⟩ := S
  exact va_castA (D := D) hx9 hb hown hlink hW.1 k (by rw [wL_get hk, he]) (hE.1.1.2 0 _ rfl).2 hdg kk
theorem z_refs {x y : Nat} (h : x = y) (k : W p l e R s m args below meth c H locs cells slots Q (F0 m pc ls (.ref y :: rest))) : W p l e R s m args below meth c H locs cells slots Q (F0 m pc ls (.ref x :: rest)) := by
  rw [h]
  exact k
end ZK
/-- behind kept(): three more cells -/
def kpA (n : Nat) (ad q : Nat → Nat) : Nat → Nat := fun k => if k < n then ad k else q (k - n)
def exK (n : Nat) (ad' cy : Nat → Nat) (f g : Nat → Int32) (ex : Nat → va_E) : Nat → va_E := fun k => if k = n then .inl (cy 3, 2, .inr (.inr (.inr (.inr (kR (ad' (n + 1)) (ad' (n + 2))))))) else if k = n + 1 then .inl (cy 0, 72, .inl f) else if k = n + 2 then .inl (cy 0, 6, .inl g) else ex k
theorem cM_x {cy ad : Nat → Nat} {ta : Nat → Nat → Int32} {ex : Nat → va_E} {k : Nat} (h : 35 ≤ k) : cM cy ad ta ex k = ex k := by
  unfold cM
  rw [if_neg (by omega)]
theorem cM_ad {cy ad ad' : Nat → Nat} {ta : Nat → Nat → Int32} {ex ex' : Nat → va_E} {n k : Nat} (hn : 35 ≤ n) (hk : k < n) (h1 : ∀ k, k < n → ad' k = ad k) (h2 : ∀ k, k < n → ex' k = ex k) : cM cy ad' ta ex' k = cM cy ad ta ex k := by
  unfold cM
  by_cases h : 28 ≤ k ∧ k < 35
  · rw [if_pos h, if_pos h]
    unfold celM
    rw [h1 29 (by omega), h1 30 (by omega), h1 31 (by omega), h1 32 (by omega), h1 33 (by omega), h1 34 (by omega)]
  · rw [if_neg h, if_neg h]
    exact h2 k hk
/-- fewer cells -/
theorem WS.cut {D : va_G} {n0 n2 : Nat} {ad0 ad2 : Nat → Nat} {ce0 ce2 : Nat → va_E} {A : Nat → Prop} {H0 H : Heap} {locs : List Loc} (hn : n0 ≤ n2) (h1 : ∀ k, k < n0 → ad2 k = ad0 k) (h2 : ∀ k, k < n0 → ce2 k = ce0 k) (h : WS D n2 ad2 ce2 A H0 H locs) : WS D n0 ad0 ce0 A H0 H locs := by
  have key : ∀ (k : Nat) (q : Nat × va_E), (wL n0 ad0 ce0)[k]? = some q → (wL n2 ad2 ce2)[k]? = some q := by
    intro k q hq
    obtain ⟨hk, rfl⟩ := wL_inv hq
    rw [wL_get (Nat.lt_of_lt_of_le hk hn), h1 k hk, h2 k hk]
  exact ⟨fun k q hq => h.1 k q (key k q hq), ⟨fun i j p q hi hj e => h.2.1.1 i j p q (key i p hi) (key j q hj) e, fun k q hq => h.2.1.2 k q (key k q hq)⟩, h.2.2⟩
abbrev QK (D : va_G) (n : Nat) (ad cy : Nat → Nat) (sz : Nat) (ta : Nat → Nat → Int32) (ex : Nat → va_E) : Array Value → State → Outcome → State → Prop := va_Qr (S := Nat → Nat) (fun q => ∀ j, j < 3 → sz ≤ q j) (fun q a t => a = q 0 ∧ va_P D vwCl (wL (n + 3) (kpA n ad q) (cM cy (kpA n ad q) ta (exK n (kpA n ad q) cy (ta 4) (ta 6) ex))) t.heap ∧ va_D (fun _ => True) (wL (n + 3) (kpA n ad q) (cM cy (kpA n ad q) ta (exK n (kpA n ad q) cy (ta 4) (ta 6) ex)))) (Acc n ad sz)
set_option maxHeartbeats 4000000 in
set_option maxRecDepth 100000 in
theorem cX4_kept_ok (l : Launch) (D : va_G) (n : Nat) (ad cy sa : Nat → Nat) (sz : Nat) (hn : 35 ≤ n) (ta : Nat → Nat → Int32) (ex : Nat → va_E) : Met l yX4_kept wsX4_kept ({ frames := 1, cells := 3, slots := 80, locals := 60 }) (PW D n ad cy sa sz (cM cy ad ta ex) [.ref (ad 28)]) (QK D n ad cy sz ta ex) 3 80 (Acc n ad sz) := by
  refine zs_met (cc := cX4_kept) (maxL := 1) (ret := some (.array (.array .int))) (own := RX4) (by decide) rfl rfl (Nat.le_of_ble_eq_true rfl) ?_
  intro p e s m args below meth c ls S hE hW hr hlk hsz hav hl
  subst hsz
  have hx := S.1
  have hb := S.2.1
  have hts := S.2.2.2.2
  have hl : lv_has ls 1 [(0, .ref (ad 28))] := hl
  have hi4 : ∀ w ∈ wsX40, w ∈ wsX4_kept := by decide +kernel
  have f19 := hts (.fieldLink RX4 19 "PumiceSledgeModel" "slope" "[I") (by decide +kernel)
  have f25 := hts (.fieldLink RX4 25 "PumiceSledgeModel" "numbers" "[I") (by decide +kernel)
  have hcl := hts (.classLink RX4 131 "[I") (by decide +kernel)
  have hm := hts (.methodLink RX4 132 ⟨"[I", "clone", "()Ljava/lang/Object;"⟩) (by decide +kernel)
  have hsame := hts (.sameMethod "[I" "java/lang/Object" "clone" "()Ljava/lang/Object;") (by decide +kernel)
  have hnat := hts (.native ⟨"java/lang/Object", "clone", "()Ljava/lang/Object;"⟩) (by decide +kernel)
  have hinst := hts (.instanceMethod ⟨"java/lang/Object", "clone", "()Ljava/lang/Object;"⟩) (by decide +kernel)
  have hsel := hts (.selects "[I" ⟨"[I", "clone", "()Ljava/lang/Object;"⟩ ⟨"java/lang/Object", "clone", "()Ljava/lang/Object;"⟩) (by decide +kernel)
  refine lv_iconst (v := 2) hx hb dX4_kept_0 (by decide) ?_
  refine z_newA (N := 2) S hE hW hcl rfl (by decide) (Nat.le_of_ble_eq_true rfl) (Nat.le_of_ble_eq_true rfl) dX4_kept_1 (fun q0 H1 hq0 hqH hP hD hS => ?_)
  -- the outer array is cell n
  obtain ⟨ad1, a1, a2⟩ : ∃ ad1 : Nat → Nat, (∀ k, k < n → ad1 k = ad k) ∧ ad1 n = q0 := ⟨fun k => if k < n then ad k else q0, fun k hk => if_pos hk, if_neg (Nat.lt_irrefl n)⟩
  obtain ⟨ce1, c1, c2⟩ : ∃ ce1 : Nat → va_E, (∀ k, k < n → ce1 k = cM cy ad ta ex k) ∧ ce1 n = .inl (cy 3, 2, .inr (.inr (.inr (.inr (fun _ => none))))) := ⟨fun k => if k < n then cM cy ad ta ex k else .inl (cy 3, 2, .inr (.inr (.inr (.inr (fun _ => none))))), fun k hk => if_pos hk, if_neg (Nat.lt_irrefl n)⟩
  have eA := wL_app (q := q0) a1 c1 a2 c2
  rw [eA] at hP hD
  have hW : WS D (n + 1) ad1 ce1 (Acc n ad s.heap.size) s.heap H1 [] := ⟨hP, hD, hS⟩
  refine lv_dup hx hb dX4_kept_4 rfl ?_
  refine lv_iconst (v := 0) hx hb dX4_kept_5 (by decide) ?_
  refine lv_aload_n hx hb dX4_kept_6 rfl (lv_at hl 0 rfl) ?_
  refine z_refs (a1 28 (by omega)).symm ?_
  refine z_get (C := RX4) (T := TX4) (N := 9) (ci := 4) S hE hW hi4 rfl (by omega) ((c1 28 (by omega)).trans cM_0) 6 (by decide) rfl f19 (v := .ref (ad 32)) rfl dX4_kept_7 ?_
  refine z_refs (a1 32 (by omega)).symm ?_
  refine z_clone (N := 72) (f := ta 4) S hE hW hl.1 (by omega) ((c1 32 (by omega)).trans cM_4) hm hsame hnat hinst hsel (Nat.le_of_ble_eq_true rfl) (Nat.le_of_ble_eq_true rfl) (Nat.le_of_ble_eq_true rfl) (Nat.le_of_ble_eq_true rfl) dX4_kept_10 (fun q1 H2 hd1 hA1 hP hD hS => ?_)
  obtain ⟨ad2, a3, a4⟩ : ∃ ad2 : Nat → Nat, (∀ k, k < n + 1 → ad2 k = ad1 k) ∧ ad2 (n + 1) = q1 := ⟨fun k => if k < n + 1 then ad1 k else q1, fun k hk => if_pos hk, if_neg (Nat.lt_irrefl (n + 1))⟩
  obtain ⟨ce2, c3, c4⟩ : ∃ ce2 : Nat → va_E, (∀ k, k < n + 1 → ce2 k = ce1 k) ∧ ce2 (n + 1) = .inl (cy 0, 72, .inl (ta 4)) := ⟨fun k => if k < n + 1 then ce1 k else .inl (cy 0, 72, .inl (ta 4)), fun k hk => if_pos hk, if_neg (Nat.lt_irrefl (n + 1))⟩
  have eB := wL_app (q := q1) a3 c3 a4 c4
  rw [eB] at hP hD
  have hW : WS D (n + 1 + 1) ad2 ce2 (Acc n ad s.heap.size) s.heap H2 [] := ⟨hP, hD, hS⟩
  refine z_refs a4.symm ?_
  refine z_castI2 S hE hW (by omega) c4 hcl dX4_kept_13 ?_
  have e20 : q0 = ad2 n := (a2.symm.trans (a3 n (by omega)).symm)
  rw [e20]
  refine z_astA (k := n) (kv := n + 1) (N := 2) (f := fun _ => none) (ce' := fun k => if k = n then .inl (cy 3, 2, .inr (.inr (.inr (.inr (va_up (fun _ => none) 0 (some (ad2 (n + 1)))))))) else ce2 k) S hE hW (by omega) (by omega) ((c3 n (by omega)).trans c2) c4 0 rfl (by decide) (by decide) (if_pos rfl) (fun j hj => if_neg hj) dX4_kept_16 (fun H3 locs3 hW => ?_)
  refine lv_dup hx hb dX4_kept_17 rfl ?_
  refine lv_iconst (v := 1) hx hb dX4_kept_18 (by decide) ?_
  refine lv_aload_n hx hb dX4_kept_19 rfl (lv_at hl 0 rfl) ?_
  refine z_refs ((a3 28 (by omega)).trans (a1 28 (by omega))).symm ?_
  have k28 : ∀ k, k < n → (fun k => if k = n then (.inl (cy 3, 2, .inr (.inr (.inr (.inr (va_up (fun _ => none) 0 (some (ad2 (n + 1)))))))) : va_E) else ce2 k) k = cM cy ad ta ex k := fun k hk => (if_neg (by omega)).trans ((c3 k (by omega)).trans (c1 k hk))
  refine z_get (C := RX4) (T := TX4) (N := 9) (ci := 4) S hE hW hi4 rfl (by omega) ((k28 28 (by omega)).trans cM_0) 8 (by decide) rfl f25 (v := .ref (ad 34)) rfl dX4_kept_20 ?_
  refine z_refs ((a3 34 (by omega)).trans (a1 34 (by omega))).symm ?_
  refine z_clone (N := 6) (f := ta 6) S hE hW hl.1 (by omega) ((k28 34 (by omega)).trans cM_6) hm hsame hnat hinst hsel (Nat.le_of_ble_eq_true rfl) (Nat.le_of_ble_eq_true rfl) (Nat.le_of_ble_eq_true rfl) (Nat.le_of_ble_eq_true rfl) dX4_kept_23 (fun q2 H4 hd2 hA2 hP hD hS => ?_)
  obtain ⟨qq, b0, b1, b2⟩ : ∃ qq : Nat → Nat, qq 0 = ad2 n ∧ qq 1 = q1 ∧ qq 2 = q2 := ⟨fun j => if j = 0 then ad2 n else if j = 1 then q1 else q2, rfl, rfl, rfl⟩
  have g1 : ∀ k, k < n → kpA n ad qq k = ad k := fun k hk => if_pos hk
  have g2 : ∀ j, kpA n ad qq (n + j) = qq j := fun j => by unfold kpA; rw [if_neg (by omega), Nat.add_sub_cancel_left]
  have g3 : ∀ k, k < n + 1 + 1 → kpA n ad qq k = ad2 k := by
    intro k hk
    by_cases q : k < n
    · rw [g1 k q, a3 k (by omega), a1 k q]
    · by_cases q3 : k = n
      · rw [q3]
        exact (g2 0).trans b0
      · rw [show k = n + 1 by omega]
        exact ((g2 1).trans b1).trans a4.symm
  obtain ⟨ce3, c9, c5, c6, c7, c8⟩ : ∃ ce3 : Nat → va_E, (∀ k, n + 3 ≤ k → ce3 k = ex k) ∧ (∀ k, k < n → ce3 k = cM cy ad ta ex k) ∧ ce3 n = .inl (cy 3, 2, .inr (.inr (.inr (.inr (va_up (fun _ => none) 0 (some (ad2 (n + 1)))))))) ∧ ce3 (n + 1) = .inl (cy 0, 72, .inl (ta 4)) ∧ ce3 (n + 1 + 1) = .inl (cy 0, 6, .inl (ta 6)) := by
    refine ⟨fun k => if n + 3 ≤ k then ex k else if k = n + 1 + 1 then .inl (cy 0, 6, .inl (ta 6)) else (fun k => if k = n then (.inl (cy 3, 2, .inr (.inr (.inr (.inr (va_up (fun _ => none) 0 (some (ad2 (n + 1)))))))) : va_E) else ce2 k) k, fun k hk => if_pos hk, fun k hk => ?_, ?_, ?_, (if_neg (by omega)).trans (if_pos rfl)⟩
    · exact (if_neg (by omega)).trans ((if_neg (by omega)).trans (k28 k hk))
    · exact (if_neg (by omega)).trans ((if_neg (by omega)).trans (if_pos rfl))
    · exact (if_neg (by omega)).trans ((if_neg (by omega)).trans ((if_neg (by omega)).trans c4))
  have eC : wL (n + 1 + 1) ad2 (fun k => if k = n then .inl (cy 3, 2, .inr (.inr (.inr (.inr (va_up (fun _ => none) 0 (some (ad2 (n + 1)))))))) else ce2 k) ++ [(q2, .inl (cy 0, 6, .inl (ta 6)))] = wL (n + 1 + 1 + 1) (kpA n ad qq) ce3 := by
    refine wL_app g3 (fun k hk => ?_) ((g2 2).trans b2) c8
    by_cases q : k < n
    · exact (c5 k q).trans (k28 k q).symm
    · by_cases q3 : k = n
      · rw [q3]
        exact c6.trans (if_pos rfl).symm
      · rw [show k = n + 1 by omega]
        exact c7.trans ((if_neg (by omega)).trans c4).symm
  rw [eC] at hP hD
  have hW : WS D (n + 1 + 1 + 1) (kpA n ad qq) ce3 (Acc n ad s.heap.size) s.heap H4 locs3 := ⟨hP, hD, hS⟩
  refine z_refs (b2.symm.trans (g2 2).symm) ?_
  refine z_castI2 S hE hW (by omega) c8 hcl dX4_kept_26 ?_
  have e2n : ad2 n = kpA n ad qq n := (g3 n (by omega)).symm
  rw [e2n]
  refine z_astA (k := n) (kv := n + 2) (N := 2) (f := va_up (fun _ => none) 0 (some (ad2 (n + 1)))) (ce' := cM cy (kpA n ad qq) ta (exK n (kpA n ad qq) cy (ta 4) (ta 6) ex)) S hE hW (by omega) (by omega) c6 c8 1 rfl (by decide) (by decide) ?_ ?_ dX4_kept_29 (fun H5 locs5 hW => ?_)
  · rw [cM_x (by omega)]
    unfold exK
    rw [if_pos rfl]
    congr 7
    funext i
    unfold kR va_up
    by_cases i0 : i = 0
    · subst i0
      rw [if_pos rfl, if_neg (by decide), if_pos rfl, g3 (n + 1) (by omega)]
    · rw [if_neg i0, if_neg i0]
  · intro j hj
    by_cases q : j < n
    · rw [c5 j q]
      refine cM_ad hn q g1 (fun k hk => ?_)
      unfold exK
      rw [if_neg (by omega), if_neg (by omega), if_neg (by omega)]
    · rw [cM_x (by omega)]
      unfold exK
      rw [if_neg hj]
      by_cases q1 : j = n + 1
      · rw [if_pos q1, q1]
        exact c7.symm
      · by_cases q2 : j = n + 2
        · rw [if_neg q1, if_pos q2, q2]
          exact c8.symm
        · rw [if_neg q1, if_neg q2]
          exact (c9 j (by omega)).symm
  refine W.widen (k := 3) (n := 80) (Nat.le_of_ble_eq_true rfl) (Nat.le_of_ble_eq_true rfl) ?_
  refine W.aret S.1 S.2.1 hr (Or.inr ⟨_, rfl⟩) (Or.inr ⟨_, rfl⟩) (fun t ht _ => ⟨⟨qq, kpA n ad qq n, rfl, ?_, ?_⟩, hW.2.2.F ht⟩) hW.2.2.2.2 dX4_kept_30 hlk
  · intro j hj
    rcases (show j = 0 ∨ j = 1 ∨ j = 2 by omega) with rfl | rfl | rfl
    · rw [b0, ← e20]
      exact hq0
    · rw [b1]
      rcases hA1 with ⟨k, hk, e9⟩ | h9
      · exact absurd (e9.trans (a1 k hk).symm) (hd1 k (by omega))
      · exact h9
    · rw [b2]
      rcases hA2 with ⟨k, hk, e9⟩ | h9
      · exact absurd (e9.trans ((a3 k (by omega)).trans (a1 k hk)).symm) (hd2 k (by omega))
      · exact h9
  · show kpA n ad qq n = qq 0 ∧ va_P D vwCl _ t.heap ∧ va_D _ _
    rw [ht]
    exact ⟨g2 0, hW.1, hW.2.1.weaken (fun _ _ _ _ => trivial)⟩
set_option maxHeartbeats 4000000 in
set_option maxRecDepth 100000 in
theorem cX4_bringBack_ok (l : Launch) (D : va_G) (n : Nat) (ad cy sa : Nat → Nat) (sz : Nat) (hn : 35 ≤ n) (ta : Nat → Nat → Int32) (ex : Nat → va_E) (K : Nat) (hK : 35 ≤ K) (hKn : K + 2 < n) (f g : Nat → Int32) (hx0 : ex K = .inl (cy 3, 2, .inr (.inr (.inr (.inr (kR (ad (K + 1)) (ad (K + 2)))))))) (hx1 : ex (K + 1) = .inl (cy 0, 72, .inl f)) (hx2 : ex (K + 2) = .inl (cy 0, 6, .inl g)) : Met l yX4_bringBack wsX4_bringBack ({ frames := 1, cells := 0, slots := 0, locals := 60 }) (PW D n ad cy sa sz (cM cy ad ta ex) [.ref (ad 28), .ref (ad K)]) (QDv D n ad sz (cM cy ad (zset (zset ta 4 (va_cpy f (ta 4) 0 0 72)) 6 (va_cpy g (ta 6) 0 0 6)) ex)) 0 0 (Acc n ad sz) := by
  refine zs_met (cc := cX4_bringBack) (maxL := 2) (ret := none) (own := RX4) (by decide) rfl rfl (Nat.le_of_ble_eq_true rfl) ?_
  intro p e s m args below meth c ls S hE hW hr hlk hsz hav hl
  subst hsz
  have hx := S.1
  have hb := S.2.1
  have hts := S.2.2.2.2
  have hl : lv_has ls 2 [(0, .ref (ad 28)), (1, .ref (ad K))] := hl
  have hi4 : ∀ w ∈ wsX40, w ∈ wsX4_bringBack := by decide +kernel
  have f19 := hts (.fieldLink RX4 19 "PumiceSledgeModel" "slope" "[I") (by decide +kernel)
  have f25 := hts (.fieldLink RX4 25 "PumiceSledgeModel" "numbers" "[I") (by decide +kernel)
  have l136 := hts (.methodLink RX4 136 arraycopyName) (by decide +kernel)
  have ac_nat := hts (.native arraycopyName) (by decide +kernel)
  have ac_st := hts (.static arraycopyName) (by decide +kernel)
  have ac_in := hts (.initialized "java/lang/System") (by decide +kernel)
  refine lv_aload_n hx hb dX4_bringBack_0 rfl (lv_at hl 1 rfl) ?_
  refine lv_iconst (v := 0) hx hb dX4_bringBack_1 (by decide) ?_
  refine z_aldA S hE hW (by omega) ((cM_x hK).trans hx0) 0 rfl (by decide) (by decide) (v := .ref (ad (K + 1))) rfl dX4_bringBack_2 ?_
  refine lv_iconst (v := 0) hx hb dX4_bringBack_3 (by decide) ?_
  refine lv_aload_n hx hb dX4_bringBack_4 rfl (lv_at hl 0 rfl) ?_
  refine z_get (C := RX4) (T := TX4) (N := 9) (ci := 4) S hE hW hi4 rfl (by omega) cM_0 6 (by decide) rfl f19 (v := .ref (ad 32)) rfl dX4_bringBack_5 ?_
  refine lv_iconst (v := 0) hx hb dX4_bringBack_8 (by decide) ?_
  refine lv_aload_n hx hb dX4_bringBack_9 rfl (lv_at hl 0 rfl) ?_
  refine z_get (C := RX4) (T := TX4) (N := 9) (ci := 4) S hE hW hi4 rfl (by omega) cM_0 6 (by decide) rfl f19 (v := .ref (ad 32)) rfl dX4_bringBack_10 ?_
  refine z_alen S hE hW (by omega) cM_4 (v := 72) (by decide) dX4_bringBack_13 ?_
  refine z_copy (ce' := cM cy ad (zset ta 4 (va_cpy f (ta 4) 0 0 72)) ex) (N := 72) S hE hW hl.1 (by omega) (by omega) ((cM_x (by omega)).trans hx1) cM_4 (by decide) (by decide) (by decide) rfl l136 ac_nat ac_st ac_in ⟨Nat.le_of_ble_eq_true rfl, Nat.le_of_ble_eq_true rfl⟩ qM_4 (fun j h => qM_o h) dX4_bringBack_14 (fun H locs hW => ?_)
  refine lv_aload_n hx hb dX4_bringBack_17 rfl (lv_at hl 1 rfl) ?_
  refine lv_iconst (v := 1) hx hb dX4_bringBack_18 (by decide) ?_
  refine z_aldA S hE hW (by omega) ((cM_x hK).trans hx0) 1 rfl (by decide) (by decide) (v := .ref (ad (K + 2))) rfl dX4_bringBack_19 ?_
  refine lv_iconst (v := 0) hx hb dX4_bringBack_20 (by decide) ?_
  refine lv_aload_n hx hb dX4_bringBack_21 rfl (lv_at hl 0 rfl) ?_
  refine z_get (C := RX4) (T := TX4) (N := 9) (ci := 4) S hE hW hi4 rfl (by omega) cM_0 8 (by decide) rfl f25 (v := .ref (ad 34)) rfl dX4_bringBack_22 ?_
  refine lv_iconst (v := 0) hx hb dX4_bringBack_25 (by decide) ?_
  refine lv_aload_n hx hb dX4_bringBack_26 rfl (lv_at hl 0 rfl) ?_
  refine z_get (C := RX4) (T := TX4) (N := 9) (ci := 4) S hE hW hi4 rfl (by omega) cM_0 8 (by decide) rfl f25 (v := .ref (ad 34)) rfl dX4_bringBack_27 ?_
  refine z_alen S hE hW (by omega) cM_6 (v := 6) (by decide) dX4_bringBack_30 ?_
  refine z_copy (ce' := cM cy ad (zset (zset ta 4 (va_cpy f (ta 4) 0 0 72)) 6 (va_cpy g (ta 6) 0 0 6)) ex) (N := 6) S hE hW hl.1 (by omega) (by omega) ((cM_x (by omega)).trans hx2) cM_6 (by decide) (by decide) (by decide) rfl l136 ac_nat ac_st ac_in ⟨Nat.le_of_ble_eq_true rfl, Nat.le_of_ble_eq_true rfl⟩ qM_6 (fun j h => qM_o h) dX4_bringBack_31 (fun H locs hW => ?_)
  exact ze_v S hW hr hlk () rfl trivial (Nat.le_of_ble_eq_true rfl) (Nat.le_of_ble_eq_true rfl) dX4_bringBack_34
/-! a call of kept() -/
section ZKC
variable {p : Program} {l : Launch} {e : Env} {R : Room} {s : State} {m : MethodId} {args : Array Value} {below : List Frame} {meth : Method} {c : Code} {H : Heap} {locs : List Loc} {cells slots : Nat} {Q : State → Prop}
variable {cc : ByteArray} {nL : Nat} {Ts : List Cond} {own : String} {pc : Nat} {ls : Array Slot} {rest : List Value} {D : va_G} {n : Nat} {ad cy sa : Nat → Nat} {A : Nat → Prop}
theorem z_cK {index : Nat} {ta : Nat → Nat → Int32} {ex : Nat → va_E} {rm : Room} {ws : List Cond} {bytes : ByteArray} {maxL : Nat} {ret : Option FieldType} {st0 : List Value} (hn : 35 ≤ n) (S : CallFix p m c cc nL s args Ts own) (hE : ZEnv D cy sa A s) (hW : WS D n ad (cM cy ad ta ex) A s.heap H locs)
    (hM : Met l yX4_kept ws rm (PW D n ad cy sa H.size (cM cy ad ta ex) [.ref (ad 28)]) (QK D n ad cy H.size ta ex) 3 80 (Acc n ad H.size)) (cw : CallW R s args own RX4 index yX4_kept bytes maxL ret ws rm 3 80 0) (hz : ls.size = nL) (hst : st0 = .ref (ad 28) :: rest) (hr : (rest.map fun v => v.category).sum ≤ 8) (hdg : decode cc pc = .ok (.invokevirtual index, 3)) (hf : cells + 3 ≤ R.cells ∧ slots + 80 ≤ R.slots)
    (kk : ∀ (n2 : Nat) (ad2 : Nat → Nat) (ex2 : Nat → va_E) (H1 : Heap) (locs1 : List Loc), n2 = n + 3 → (∀ k, k < n → ad2 k = ad k) → ex2 n = .inl (cy 3, 2, .inr (.inr (.inr (.inr (kR (ad2 (n + 1)) (ad2 (n + 2))))))) → ex2 (n + 1) = .inl (cy 0, 72, .inl (ta 4)) → ex2 (n + 2) = .inl (cy 0, 6, .inl (ta 6)) → (∀ k, k < n → ex2 k = ex k) → WS D n2 ad2 (cM cy ad2 ta ex2) A s.heap H1 locs1 →
      W p l e R s m args below meth c H1 locs1 (cells + 3) (slots + 80) Q (F0 m (pc + 3) ls (.ref (ad2 n) :: rest))) : W p l e R s m args below meth c H locs cells slots Q (F0 m pc ls st0) := by
  refine va_callr (va_runV (As := []) (rest := rest) S hM cw ⟨PW_blind, z_recv (q := (RX4, TX4, 9)) hE hW (k := 28) (by omega) cM_0 rfl, PW_at hE hW⟩ rfl rfl hz hst (lv_room hr) hdg hf) hW.2.2 (fun q _ h => hW.acc hE.2 q h) (hW.acc hE.2) (fun qq ra t H1 locs1 ht hvm hp hB hz1 hk1 hS1 => ?_)
  obtain ⟨rfl, hP, hD⟩ := hB
  rw [ht] at hP
  have g1 : ∀ k, k < n → kpA n ad qq k = ad k := fun k hk => if_pos hk
  have g2 : ∀ j, kpA n ad qq (n + j) = qq j := fun j => by unfold kpA; rw [if_neg (by omega), Nat.add_sub_cancel_left]
  have e0 : qq 0 = kpA n ad qq n := (g2 0).symm
  rw [e0]
  refine kk (n + 3) (kpA n ad qq) (exK n (kpA n ad qq) cy (ta 4) (ta 6) ex) H1 locs1 rfl g1 (if_pos rfl) ((if_neg (by omega)).trans (if_pos rfl)) ((if_neg (by omega)).trans ((if_neg (by omega)).trans (if_pos rfl))) (fun k hk => (if_neg (by omega)).trans ((if_neg (by omega)).trans (if_neg (by omega)))) ⟨hP, ⟨hD.1, fun k q hq => ?_⟩, hS1⟩
  obtain ⟨hk, rfl⟩ := wL_inv hq
  show A (kpA n ad qq k)
  by_cases h : k < n
  · rw [g1 k h]
    exact hW.2.1.2 k _ (wL_get h)
  · obtain ⟨j, rfl⟩ : ∃ j, k = n + j := ⟨k - n, by omega⟩
    rw [g2 j]
    exact hE.2 _ (Nat.le_trans hW.2.2.1 (hp j (by omega)))
end ZKC
/-- brought back: as it was -/
theorem e_back {al be : Nat → Nat → Int32} {th : Int32} (h04 : be 0 4 = al 0 4) (h06 : be 0 6 = al 0 6) (h1 : be 1 = al 1) (h2 : be 2 = al 2) (h3 : be 3 = al 3) (hb : ∀ i, i < 4 → be (24 + i) = al (24 + i)) : zset (zset (enc be th) 4 (va_cpy (enc al th 4) (enc be th 4) 0 0 72)) 6 (va_cpy (enc al th 6) (enc be th 6) 0 0 6) = enc al th := by
  refine enc_ext ?_ ?_ ?_ ?_ ?_ ?_ ?_ (fun k hk => by rw [zset_o (by omega), zset_o (by omega), enc_7 hk])
  · rw [zset_o (by decide), zset_o (by decide)]
    show (fun j => if j = 0 then th else if j = 1 then be 0 4 else if j = 2 then be 0 6 else 0) = (fun j => if j = 0 then th else if j = 1 then al 0 4 else if j = 2 then al 0 6 else 0)
    rw [h04, h06]
  · rw [zset_o (by decide), zset_o (by decide)]; exact h1
  · rw [zset_o (by decide), zset_o (by decide)]; exact h2
  · rw [zset_o (by decide), zset_o (by decide)]; exact h3
  · rw [zset_o (by decide), zset_k]
    funext j
    show va_cpy (slo al) (slo be) 0 0 72 j = slo al j
    by_cases h : j < 72
    · rw [pk_cpy_in (by omega) (by omega)]
      congr 1
      omega
    · rw [pk_cpy_out (by omega)]
      unfold slo
      rw [if_pos (by omega), if_pos (by omega)]
  · rw [zset_o (by decide), zset_o (by decide)]
    funext j
    show fle be j = fle al j
    unfold fle
    by_cases q : 12 ≤ j
    · rw [if_pos q, if_pos q]
    · rw [if_neg q, if_neg q, hb _ (by omega)]
  · rw [zset_k]
    funext j
    show va_cpy (num al) (num be) 0 0 6 j = num al j
    by_cases h : j < 6
    · rw [pk_cpy_in (by omega) (by omega)]
      congr 1
      omega
    · rw [pk_cpy_out (by omega)]
      unfold num
      rw [if_neg (by omega), if_neg (by omega), if_neg (by omega), if_neg (by omega), if_neg (by omega), if_neg (by omega), if_neg (by omega), if_neg (by omega)]
