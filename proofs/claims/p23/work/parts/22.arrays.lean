/-! Rows of an array of int arrays. -/
theorem wL_app {n : Nat} {ad ad' : Nat → Nat} {ce ce' : Nat → va_E} {q : Nat} {e : va_E} (h1 : ∀ k, k < n → ad' k = ad k) (h2 : ∀ k, k < n → ce' k = ce k) (h3 : ad' n = q) (h4 : ce' n = e) : wL n ad ce ++ [(q, e)] = wL (n + 1) ad' ce' := by
  unfold wL
  rw [List.range_succ, List.map_append]
  subst h3
  subst h4
  refine congrArg (fun z => z ++ _) (List.map_congr_left (fun k hk => ?_))
  have hk2 := List.mem_range.mp hk
  rw [h1 k hk2, h2 k hk2]
section ZK
variable {p : Program} {l : Launch} {e : Env} {R : Room} {s : State} {m : MethodId} {args : Array Value} {below : List Frame} {meth : Method} {c : Code} {H : Heap} {locs : List Loc} {cells slots : Nat} {Q : State → Prop}
variable {cc : ByteArray} {nL : Nat} {Ts : List Cond} {own : String} {pc : Nat} {ls : Array Slot} {rest : List Value} {D : va_G} {n : Nat} {ad ad' cy sa : Nat → Nat} {ce ce' : Nat → va_E} {A : Nat → Prop}
/-- the class of int arrays, and of their arrays -/
theorem z_overA (hE : ZEnv D cy sa A s) : ∃ kA kI : Class, s.vm.findClass "[I" = some (cy 0) ∧ s.vm.classes[cy 0]? = some kI ∧ s.vm.classes[cy 3]? = some kA ∧ kA.kind = .array (cy 0) (.array .int) ∧ s.vm.findClass ("[" ++ (FieldType.array .int).toString) = some (cy 3) := by
  obtain ⟨comp, c9, k9, f1, f2, f3, f4, f5⟩ := arrayOverA_spec hE.1.2.2.1.2.1
  have e3 : s.vm.findClass ("[" ++ (FieldType.array .int).toString) = some (cy 3) := (hE.1.1.2 3 _ rfl).2
  have e0 : s.vm.findClass (FieldType.array .int).toString = some (cy 0) := (hE.1.1.2 0 _ rfl).2
  cases Option.some.inj (f5.symm.trans e3)
  cases Option.some.inj (f1.symm.trans e0)
  obtain ⟨kI, hkI, -⟩ := Vm.findClass_spec e0
  exact ⟨k9, kI, e0, hkI, f3, f4, e3⟩
theorem z_newA {index N : Nat} (S : CallFix p m c cc nL s args Ts own) (hE : ZEnv D cy sa A s) (hW : WS D n ad ce A s.heap H locs) (hclink : (Cond.classLink own index "[I").before args s = true) {x : Int32} (hx : x = nI N) (hN : N < 2 ^ 20) (hcells : cells + 1 ≤ R.cells) (hslots : slots + N ≤ R.slots) (hdg : decode cc pc = .ok (.anewarray index, 3))
    (kk : ∀ (q : Nat) (H1 : Heap), s.heap.size ≤ q → q = H.size → va_P D vwCl (wL n ad ce ++ [(q, .inl (cy 3, N, .inr (.inr (.inr (.inr (fun _ => none))))))]) H1 → va_D A (wL n ad ce ++ [(q, .inl (cy 3, N, .inr (.inr (.inr (.inr (fun _ => none))))))]) → va_S A s.heap H1 locs →
      W p l e R s m args below meth c H1 locs (cells + 1) (slots + N) Q (F0 m (pc + 3) ls (.ref q :: rest))) : W p l e R s m args below meth c H locs cells slots Q (F0 m pc ls (.int x :: rest)) := by
  obtain ⟨hx9, hb, hml, hown, hts⟩ := S
  subst hx
  have hc : (nI N).toNatClampNeg = N := nI_clamp (by omega)
  refine W.anewA (t := .int) hx9 hb hown hclink (over_moved (Vm.Alike.refl s.vm) hE.1.2.2.1.2.1) rfl hdg rfl (nI_pos (by omega)) (by rw [hc]; omega) hcells (by rw [hc]; exact hslots) fun cA kA comp f1 f2 f3 f4 => ?_
  have e3 : s.vm.findClass ("[" ++ (FieldType.array .int).toString) = some (cy 3) := (hE.1.1.2 3 _ rfl).2
  cases Option.some.inj (f1.symm.trans e3)
  rw [hc]
  generalize hH1 : H.push ({ cls := cy 3, slots := Array.replicate N .null, vm := .none } : Cell) = H1
  have z1 : H1.size = H.size + 1 := by rw [← hH1, Array.size_push]
  have e1 : H1[H.size]? = some (arrV (cy 3) N (fun _ => .null)) := by rw [← hH1, Array.getElem?_push_size, ← arrV_new]
  have o1 : ∀ q : Nat, q < H.size → H1[q]? = H[q]? := fun q hq => by rw [← hH1, Array.getElem?_push, if_neg (Nat.ne_of_lt hq)]
  have hk : ∀ (k : Nat) (x : Nat × va_E), (wL n ad ce)[k]? = some x → H1[x.1]? = H[x.1]? := fun k x hx => o1 x.1 ((hW.1 k x hx).lt)
  refine kk H.size H1 hW.2.2.1 rfl ((hW.1.kept hk).app (fun k x hx => ?_)) (hW.2.1.push hW.1 rfl (hE.2 _ hW.2.2.1)) ⟨Nat.le_trans hW.2.2.1 (by omega), fun x h1 h2 => (o1 x (Nat.lt_of_lt_of_le h1 hW.2.2.1)).trans (hW.2.2.2.1 x h1 h2), hW.2.2.2.2⟩
  have hz : k < 1 := (List.getElem?_eq_some_iff.mp hx).1
  rw [show k = 0 by omega] at hx
  cases hx
  show H1[H.size]? = some (vp_cell _ _)
  rw [vp_cell_q]
  exact e1
theorem z_astA {k kv N : Nat} {f : Nat → Option Nat} {x : vp_A} (S : CallFix p m c cc nL s args Ts own) (hE : ZEnv D cy sa A s) (hW : WS D n ad ce A s.heap H locs) (hk : k < n) (hkv : kv < n) (he : ce k = .inl (cy 3, N, .inr (.inr (.inr (.inr f))))) (hev : ce kv = .inl (cy 0, x)) {i : Int32} (j : Nat) (hi : i = nI j) (hj : j < N) (hN : N < 2 ^ 31)
    (h1 : ce' k = .inl (cy 3, N, .inr (.inr (.inr (.inr (va_up f j (some (ad kv)))))))) (h2 : ∀ j, j ≠ k → ce' j = ce j) (hdg : decode cc pc = .ok (.aastore, 1))
    (kk : ∀ (H1 : Heap) (locs1 : List Loc), WS D n ad ce' A s.heap H1 locs1 → W p l e R s m args below meth c H1 locs1 cells slots Q (F0 m (pc + 1) ls rest)) : W p l e R s m args below meth c H locs cells slots Q (F0 m pc ls (.ref (ad kv) :: .int i :: .ref (ad k) :: rest)) := by
  obtain ⟨hx9, hb, hml, hown, hts⟩ := S
  subst hi
  have hc : (nI j).toNatClampNeg = j := nI_clamp (by omega)
  obtain ⟨kA, kI, g0, g1, g2, g3, g4⟩ := z_overA hE
  have ha : (wL n ad ce)[k]? = some (ad k, .inl (cy 3, N, .inr (.inr (.inr (.inr f))))) := by rw [wL_get hk, he]
  have hv : H[ad kv]? = some (vp_cell (cy 0) x) := hW.1 kv (ad kv, .inl (cy 0, x)) (by rw [wL_get hkv, hev])
  have hvm0 : (vp_cell (cy 0) x).vm = .none := by
    obtain ⟨n, f | f | f | f | f⟩ := x <;> rfl
  have hcl0 : (vp_cell (cy 0) x).cls = cy 0 := by
    obtain ⟨n, f | f | f | f | f⟩ := x <;> rfl
  refine W.aast hx9 hb (hW.1 k _ ha) (fun q h => by cases h) (fun h => by cases h) g2 g3 rfl g1 ⟨nI_pos (by omega), by rw [hc]; show _ < (arrV _ _ _).slots.size; rw [arrV_size]; exact hj⟩ hv (fun q h => by rw [hvm0] at h; cases h) (by rw [hcl0]; exact g1) (by rw [hcl0]; exact va_asg _ _) rfl rfl hdg fun H1 e z oq => ?_
  rw [hc] at e
  have hP : va_P D vwCl ((wL n ad ce).set k (ad k, .inl (cy 3, N, .inr (.inr (.inr (.inr (va_up f j (some (ad kv)))))))) ) H1 := by
    refine hW.1.set hW.2.1 ha ?_ oq
    show H1[ad k]? = some (vp_cell _ _)
    rw [e]
    rw [vp_cell_q, vp_cell_q, arrV_store]
    congr 2
    funext q
    by_cases hq : q = j
    · subst hq
      rw [va_up_self]
      simp [updV, va_rf]
    · rw [va_up_ne _ _ hq]
      simp [updV, hq]
  rw [wL_set h1 h2] at hP
  exact kk H1 _ ⟨hP, wL_D hW.2.1, hW.2.2.put z oq (hW.2.1.2 k _ ha)⟩
theorem z_aldA (S : CallFix p m c cc nL s args Ts own) (hE : ZEnv D cy sa A s) (hW : WS D n ad ce A s.heap H locs) {k N : Nat} (hk : k < n) {f : Nat → Option Nat} (he : ce k = .inl (cy 3, N, .inr (.inr (.inr (.inr f))))) {i : Int32} (j : Nat) (hi : i = nI j) (hj : j < N) (hN : N < 2 ^ 31) {v : Value} (hv : va_rf (f j) = v) (hdg : decode cc pc = .ok (.aaload, 1))
    (kk : W p l e R s m args below meth c H locs cells slots Q (F0 m (pc + 1) ls (v :: rest))) : W p l e R s m args below meth c H locs cells slots Q (F0 m pc ls (.int i :: .ref (ad k) :: rest)) := by
  obtain ⟨hx9, hb, hml, hown, hts⟩ := S
  subst hi
  have hc : (nI j).toNatClampNeg = j := nI_clamp (by omega)
  refine W.aald (v := v) (ty := .array .int) hx9 hb (hW.1 k (ad k, .inl (cy 3, N, .inr (.inr (.inr (.inr f))))) (by rw [wL_get hk, he])) ((hE.1.1.2 3 _ rfl).1 N (fun j => va_rf (f j))) rfl (fun q => by cases q) (by show ¬ (nI j < 0 ∨ (arrV _ _ _).slots.size ≤ _); rw [arrV_size]; exact (z_inj hj hN).1) (by rw [hc]; show (arrV _ _ _).slots[_]? = _; rw [arrV_read _ _ hj, hv]) rfl rfl hdg kk
end ZK
