/-! The constructors of the law's own classes. -/
section YD
variable {p : Program} {l : Launch} {e : Env} {R : Room} {s : State} {m : MethodId} {args : Array Value} {below : List Frame} {meth : Method} {c : Code} {H : Heap} {locs : List Loc} {cells slots : Nat} {Q : State → Prop}
variable {cc : ByteArray} {nL : Nat} {Ts : List Cond} {own : String} {pc : Nat} {ls : Array Slot} {rest : List Value} {D : va_G} {cy sa : Nat → Nat} {A : Nat → Prop} {ws : va_W} {a : Nat}
theorem y_putR {C : String} {T : u_T} {N ci index : Nat} (S : CallFix p m c cc nL s args Ts C) (hE : ZEnv D cy sa A s) (hL : yLS D ws A s.heap H locs) (hin : ∀ w ∈ u_ws C T N, w ∈ Ts) (ty0 : Nat → FieldType) (hty : ∀ k, k < N → parseFieldDescriptor (T k).2.2.1 = some (ty0 k)) (hnm : ∀ a, a < N → ∀ b, b < N → a ≠ b → (T a).2.1 ≠ (T b).2.1) (hc : vwCl[ci]? = some (C, T, N)) (q0 : Nat) {fs : List Value} (he : ws[q0]? = some (a, .inr (ci, fs))) (k : Nat) (hk : k < N) (hr9 : (T k).1 = C) (hlink : (Cond.fieldLink C index C (T k).2.1 (T k).2.2.1).before args s = true) (hfin : (T k).2.2.2 = false) {v : Nat} (hna : narrow (ty0 k) (.ref v) = .ref v) (hfi : fits (ty0 k) (.ref v) = true) (hl : k < fs.length) (hdg : decode cc pc = .ok (.putfield index, 3))
    (kk : ∀ (H1 : Heap) (locs1 : List Loc), yLS D (ws.set q0 (a, .inr (ci, fs.set k (.ref v)))) A s.heap H1 locs1 → W p l e R s m args below meth c H1 locs1 cells slots Q (F0 m (pc + 3) ls rest)) : W p l e R s m args below meth c H locs cells slots Q (F0 m pc ls (.ref v :: .ref a :: rest)) := by
  obtain ⟨hx9, hb, hml, hown, hts⟩ := S
  exact va_put (D := D) hx9 hb hts hin ty0 hty hnm hown hE.1.1 hL.1 hL.2.1 hL.2.2 q0 he hc k hk hlink (fun x h => by rw [hr9] at h; exact h) hfin (ty := ty0 k) (hty k hk) hna hfi hl hdg (fun H1 locs1 hP hD hS => kk H1 locs1 ⟨hP, hD, hS⟩)
theorem y_newA {index N : Nat} (S : CallFix p m c cc nL s args Ts own) (hE : ZEnv D cy sa A s) (hW : yLS D ws A s.heap H locs) (hclink : (Cond.classLink own index "[I").before args s = true) {x : Int32} (hx : x = nI N) (hN : N < 2 ^ 20) (hcells : cells + 1 ≤ R.cells) (hslots : slots + N ≤ R.slots) (hdg : decode cc pc = .ok (.anewarray index, 3))
    (kk : ∀ (q : Nat) (H1 : Heap), s.heap.size ≤ q → q = H.size → va_P D vwCl (ws ++ [(q, .inl (cy 3, N, .inr (.inr (.inr (.inr (fun _ => none))))))]) H1 → va_D A (ws ++ [(q, .inl (cy 3, N, .inr (.inr (.inr (.inr (fun _ => none))))))]) → va_S A s.heap H1 locs →
      W p l e R s m args below meth c H1 locs (cells + 1) (slots + N) Q (F0 m (pc + 3) ls (.ref q :: rest))) : W p l e R s m args below meth c H locs cells slots Q (F0 m pc ls (.int x :: rest)) := by
  obtain ⟨hx9, hb, hml, hown, hts⟩ := S
  subst hx
  have hc : (nI N).toNatClampNeg = N := nI_clamp (by omega)
  refine W.anewA (t := .int) hx9 hb hown hclink (over_moved (Vm.Alike.refl s.vm) hE.1.2.2.1.2.1) rfl hdg rfl (nI_pos (by omega)) (by rw [hc]; omega) hcells (by rw [hc]; exact hslots) fun cA kA comp f1 f2 f3 f4 => ?_
  have e3 : s.vm.findClass ("[" ++ (FieldType.array .int).toString) = some (cy 3) := (hE.1.1.2 3 _ rfl).2
  cases Option.some.inj (f1.symm.trans e3)
  rw [hc]
  generalize hH1 : H.push ({ cls := cy 3, slots := Array.replicate N .null, vm := .none } : Cell) = H1
  have z1 : H1.size = H.size + 1 := by rw [← hH1, Array.size_push]
  have e1 : H1[H.size]? = some (arrV (cy 3) N (fun _ => .null)) := by rw [← hH1, Array.getElem?_push_size, ← arrV_new]
  have o1 : ∀ q : Nat, q < H.size → H1[q]? = H[q]? := fun q hq => by rw [← hH1, Array.getElem?_push, if_neg (Nat.ne_of_lt hq)]
  have hk : ∀ (k : Nat) (x : Nat × va_E), (ws)[k]? = some x → H1[x.1]? = H[x.1]? := fun k x hx => o1 x.1 ((hW.1 k x hx).lt)
  refine kk H.size H1 hW.2.2.1 rfl ((hW.1.kept hk).app (fun k x hx => ?_)) (hW.2.1.push hW.1 rfl (hE.2 _ hW.2.2.1)) ⟨Nat.le_trans hW.2.2.1 (by omega), fun x h1 h2 => (o1 x (Nat.lt_of_lt_of_le h1 hW.2.2.1)).trans (hW.2.2.2.1 x h1 h2), hW.2.2.2.2⟩
  have hz : k < 1 := (List.getElem?_eq_some_iff.mp hx).1
  rw [show k = 0 by omega] at hx
  cases hx
  show H1[H.size]? = some (vp_cell _ _)
  rw [vp_cell_q]
  exact e1
end YD

set_option maxHeartbeats 4000000 in
set_option maxRecDepth 100000 in
theorem cX5_init_ok (l : Launch) (D : va_G) (cy sa : Nat → Nat) (h0 : Nat) (sz : Nat) : Met l yX5_init wsX5_init ({ frames := 1, cells := 1, slots := 0, locals := 60 }) (PL D [(h0, .inr (5, [.int 0, .int 0, .int 0, .null]))] cy sa sz [.ref h0]) (QL D [(h0, .inr (5, [.int 0, .int 0, .int 0, .null]))] sz (fun u : Nat => True) (fun u => [(h0, .inr (5, [.int 0, .int 20, .int 0, .ref u])), (u, .inl (cy 0, 0, .inl (fun _ => 0)))])) 1 0 (va_A [(h0, .inr (5, [.int 0, .int 0, .int 0, .null]))] sz) := by
  refine ys_met1 ?_
  refine ys_met (X := (fun _ => True)) (cc := cX5_init) (maxL := 1) (own := RX5) (by decide) rfl rfl rfl (Nat.le_of_ble_eq_true rfl) ?_
  intro p e s m args below meth c ls S hX hE hL hr hlk hin2 hsz hl
  subst hsz
  generalize hAe : va_A [(h0, .inr (5, [.int 0, .int 0, .int 0, .null]))] s.heap.size = A at hE hL ⊢
  have hx := S.1
  have hb := S.2.1
  have hown := S.2.2.2.1
  have hts := S.2.2.2.2
  have hl : lv_has ls 1 [(0, .ref h0)] := hl
  obtain ⟨locs, hlc⟩ : ∃ z : List Loc, z = [] := ⟨_, rfl⟩
  rw [← hlc] at hL ⊢
  have ob1 := hts (.methodLink RX5 1 objectInit) (by decide +kernel)
  have ob2 := hts (.instanceMethod objectInit) (by decide +kernel)
  have ob3 := hts (.code objectInit ⟨#[0xb1]⟩ 1 none) (by decide +kernel)
  have f7 := hts (.fieldLink RX5 7 "PumiceSledgeLaw$Sledge" "height" "I") (by decide +kernel)
  have hi5 : ∀ w ∈ wsX50, w ∈ wsX5_init := by decide +kernel
  have har := hts (.arrayClass .int) (by decide +kernel)
  have f13 := hts (.fieldLink RX5 13 "PumiceSledgeLaw$Sledge" "sacks" "[I") (by decide +kernel)
  refine lv_aload_n hx hb dX5_init_0 rfl (lv_at hl 0 rfl) ?_
  refine W.objInit hx hb hown ob1 ob2 ob3 rfl (by rw [S.2.2.1]; exact hl.1) rfl dX5_init_1 (Nat.le_of_ble_eq_true rfl) (Nat.le_of_ble_eq_true rfl) ?_
  refine W.eq (g2 := F0 m 4 ls []) rfl ?_
  refine lv_aload_n hx hb dX5_init_4 rfl (lv_at hl 0 rfl) ?_
  refine lv_bipush (v := 20) hx hb dX5_init_5 (by decide) ?_
  refine y_putI (C := RX5) (T := TX5) (N := 4) (ci := 5) (fs := [.int 0, .int 0, .int 0, .null]) S hE hL hi5 tyX5 tyX5_ok nmX5 rfl 0 rfl 1 (by decide) rfl f7 rfl rfl (Nat.le_of_ble_eq_true rfl) dX5_init_7 (fun H locs hL => ?_)
  replace hL : yLS D [(h0, .inr (5, [.int 0, .int 20, .int 0, .null]))] A s.heap H locs := hL
  refine lv_aload_n hx hb dX5_init_10 rfl (lv_at hl 0 rfl) ?_
  refine lv_iconst (v := 0) hx hb dX5_init_11 (by decide) ?_
  refine y_newI (N := 0) S hE hL har rfl (by decide) (Nat.le_of_ble_eq_true rfl) (Nat.le_of_ble_eq_true rfl) dX5_init_12 (fun q1 H hL => ?_)
  replace hL : yLS D [(h0, .inr (5, [.int 0, .int 20, .int 0, .null])), (q1, .inl (cy 0, 0, .inl (fun _ => 0)))] A s.heap H locs := hL
  refine y_putR (C := RX5) (T := TX5) (N := 4) (ci := 5) (fs := [.int 0, .int 20, .int 0, .null]) S hE hL hi5 tyX5 tyX5_ok nmX5 rfl 0 rfl 3 (by decide) rfl f13 rfl rfl rfl (Nat.le_of_ble_eq_true rfl) dX5_init_14 (fun H locs hL => ?_)
  replace hL : yLS D [(h0, .inr (5, [.int 0, .int 20, .int 0, .ref q1])), (q1, .inl (cy 0, 0, .inl (fun _ => 0)))] A s.heap H locs := hL
  refine W.widen (k := 1) (n := 0) (Nat.le_of_ble_eq_true rfl) (Nat.le_of_ble_eq_true rfl) ?_
  subst hAe
  exact W.vret hx hb hr (fun t ht _ => ⟨⟨q1, rfl, trivial, by rw [ht]; exact hL.1, hL.2.1⟩, hL.2.2.F ht⟩) hL.2.2.2.2 dX5_init_17 hlk

set_option maxHeartbeats 4000000 in
set_option maxRecDepth 100000 in
theorem cX4_init_ok (l : Launch) (D : va_G) (cy sa : Nat → Nat) (h0 : Nat) (sz : Nat) : Met l yX4_init wsX4_init ({ frames := 1, cells := 6, slots := 21, locals := 60 }) (PL D [(h0, .inr (4, [.null, .null, .null, .null, .null, .null, .int 0, .int 0, .int 0]))] cy sa sz [.ref h0]) (QL D [(h0, .inr (4, [.null, .null, .null, .null, .null, .null, .int 0, .int 0, .int 0]))] sz (fun u : Nat → Nat => u 28 = h0) (fun u => [(u 28, .inr (4, [.ref (u 29), .ref (u 30), .ref (u 31), .ref (u 33), .ref (u 34), .ref (u 32), .int 0, .int 0, .int 0])), (u 29, .inl (cy 0, 5, .inl st0)), (u 30, .inl (cy 0, 5, .inl sw0)), (u 31, .inl (cy 0, 8, .inl (fun _ => 0))), (u 33, .inl (cy 4, 0, .inr (.inr (.inr (.inr (fun _ => none)))))), (u 34, .inl (cy 3, 0, .inr (.inr (.inr (.inr (fun _ => none)))))), (u 32, .inl (cy 0, 3, .inl (fun _ => 0)))])) 6 21 (va_A [(h0, .inr (4, [.null, .null, .null, .null, .null, .null, .int 0, .int 0, .int 0]))] sz) := by
  refine ys_met1 ?_
  refine ys_met (X := (fun _ => True)) (cc := cX4_init) (maxL := 1) (own := RX4) (by decide) rfl rfl rfl (Nat.le_of_ble_eq_true rfl) ?_
  intro p e s m args below meth c ls S hX hE hL hr hlk hin2 hsz hl
  subst hsz
  generalize hAe : va_A [(h0, .inr (4, [.null, .null, .null, .null, .null, .null, .int 0, .int 0, .int 0]))] s.heap.size = A at hE hL ⊢
  have hx := S.1
  have hb := S.2.1
  have hown := S.2.2.2.1
  have hts := S.2.2.2.2
  have hl : lv_has ls 1 [(0, .ref h0)] := hl
  obtain ⟨locs, hlc⟩ : ∃ z : List Loc, z = [] := ⟨_, rfl⟩
  rw [← hlc] at hL ⊢
  have ob1 := hts (.methodLink RX4 1 objectInit) (by decide +kernel)
  have ob2 := hts (.instanceMethod objectInit) (by decide +kernel)
  have ob3 := hts (.code objectInit ⟨#[0xb1]⟩ 1 none) (by decide +kernel)
  have har := hts (.arrayClass .int) (by decide +kernel)
  have f7 := hts (.fieldLink RX4 7 "PumiceSledgeLaw$Sim" "stones" "[I") (by decide +kernel)
  have hi4 : ∀ w ∈ wsX40, w ∈ wsX4_init := by decide +kernel
  have f13 := hts (.fieldLink RX4 13 "PumiceSledgeLaw$Sim" "weight" "[I") (by decide +kernel)
  have f16 := hts (.fieldLink RX4 16 "PumiceSledgeLaw$Sim" "gusts" "[I") (by decide +kernel)
  have k19 := hts (.classLink RX4 19 RX5) (by decide +kernel)
  have f21 := hts (.fieldLink RX4 21 "PumiceSledgeLaw$Sim" "sledges" "[LPumiceSledgeLaw$Sledge;") (by decide +kernel)
  have k25 := hts (.classLink RX4 25 "[I") (by decide +kernel)
  have f26 := hts (.fieldLink RX4 26 "PumiceSledgeLaw$Sim" "boats" "[[I") (by decide +kernel)
  have f30 := hts (.fieldLink RX4 30 "PumiceSledgeLaw$Sim" "beach" "[I") (by decide +kernel)
  refine lv_aload_n hx hb dX4_init_0 rfl (lv_at hl 0 rfl) ?_
  refine W.objInit hx hb hown ob1 ob2 ob3 rfl (by rw [S.2.2.1]; exact hl.1) rfl dX4_init_1 (Nat.le_of_ble_eq_true rfl) (Nat.le_of_ble_eq_true rfl) ?_
  refine W.eq (g2 := F0 m 4 ls []) rfl ?_
  refine lv_aload_n hx hb dX4_init_4 rfl (lv_at hl 0 rfl) ?_
  refine lv_iconst (v := 5) hx hb dX4_init_5 (by decide) ?_
  refine y_newI (N := 5) S hE hL har rfl (by decide) (Nat.le_of_ble_eq_true rfl) (Nat.le_of_ble_eq_true rfl) dX4_init_6 (fun q1 H hL => ?_)
  replace hL : yLS D [(h0, .inr (4, [.null, .null, .null, .null, .null, .null, .int 0, .int 0, .int 0])), (q1, .inl (cy 0, 5, .inl (fun _ => 0)))] A s.heap H locs := hL
  refine lv_dup hx hb dX4_init_8 rfl ?_
  refine lv_iconst (v := 0) hx hb dX4_init_9 (by decide) ?_
  refine lv_bipush (v := 100) hx hb dX4_init_10 (by decide) ?_
  refine y_ast S hE hL 1 (N := 5) (f := (fun _ => 0)) rfl 0 rfl (by decide) (by decide) dX4_init_12 (fun H locs hL => ?_)
  replace hL : yLS D [(h0, .inr (4, [.null, .null, .null, .null, .null, .null, .int 0, .int 0, .int 0])), (q1, .inl (cy 0, 5, .inl (upd (fun _ => 0) 0 100)))] A s.heap H locs := hL
  refine lv_dup hx hb dX4_init_13 rfl ?_
  refine lv_iconst (v := 1) hx hb dX4_init_14 (by decide) ?_
  refine lv_bipush (v := 100) hx hb dX4_init_15 (by decide) ?_
  refine y_ast S hE hL 1 (N := 5) (f := (upd (fun _ => 0) 0 100)) rfl 1 rfl (by decide) (by decide) dX4_init_17 (fun H locs hL => ?_)
  replace hL : yLS D [(h0, .inr (4, [.null, .null, .null, .null, .null, .null, .int 0, .int 0, .int 0])), (q1, .inl (cy 0, 5, .inl (upd (upd (fun _ => 0) 0 100) 1 100)))] A s.heap H locs := hL
  refine lv_dup hx hb dX4_init_18 rfl ?_
  refine lv_iconst (v := 2) hx hb dX4_init_19 (by decide) ?_
  refine lv_bipush (v := 100) hx hb dX4_init_20 (by decide) ?_
  refine y_ast S hE hL 1 (N := 5) (f := (upd (upd (fun _ => 0) 0 100) 1 100)) rfl 2 rfl (by decide) (by decide) dX4_init_22 (fun H locs hL => ?_)
  replace hL : yLS D [(h0, .inr (4, [.null, .null, .null, .null, .null, .null, .int 0, .int 0, .int 0])), (q1, .inl (cy 0, 5, .inl (upd (upd (upd (fun _ => 0) 0 100) 1 100) 2 100)))] A s.heap H locs := hL
  refine lv_dup hx hb dX4_init_23 rfl ?_
  refine lv_iconst (v := 3) hx hb dX4_init_24 (by decide) ?_
  refine lv_bipush (v := 100) hx hb dX4_init_25 (by decide) ?_
  refine y_ast S hE hL 1 (N := 5) (f := (upd (upd (upd (fun _ => 0) 0 100) 1 100) 2 100)) rfl 3 rfl (by decide) (by decide) dX4_init_27 (fun H locs hL => ?_)
  replace hL : yLS D [(h0, .inr (4, [.null, .null, .null, .null, .null, .null, .int 0, .int 0, .int 0])), (q1, .inl (cy 0, 5, .inl (upd (upd (upd (upd (fun _ => 0) 0 100) 1 100) 2 100) 3 100)))] A s.heap H locs := hL
  refine lv_dup hx hb dX4_init_28 rfl ?_
  refine lv_iconst (v := 4) hx hb dX4_init_29 (by decide) ?_
  refine lv_bipush (v := 100) hx hb dX4_init_30 (by decide) ?_
  refine y_ast S hE hL 1 (N := 5) (f := (upd (upd (upd (upd (fun _ => 0) 0 100) 1 100) 2 100) 3 100)) rfl 4 rfl (by decide) (by decide) dX4_init_32 (fun H locs hL => ?_)
  replace hL : yLS D [(h0, .inr (4, [.null, .null, .null, .null, .null, .null, .int 0, .int 0, .int 0])), (q1, .inl (cy 0, 5, .inl (upd (upd (upd (upd (upd (fun _ => 0) 0 100) 1 100) 2 100) 3 100) 4 100)))] A s.heap H locs := hL
  refine y_putR (C := RX4) (T := TX4) (N := 9) (ci := 4) (fs := [.null, .null, .null, .null, .null, .null, .int 0, .int 0, .int 0]) S hE hL hi4 tyX4 tyX4_ok nmX4 rfl 0 rfl 0 (by decide) rfl f7 rfl rfl rfl (Nat.le_of_ble_eq_true rfl) dX4_init_33 (fun H locs hL => ?_)
  replace hL : yLS D [(h0, .inr (4, [.ref q1, .null, .null, .null, .null, .null, .int 0, .int 0, .int 0])), (q1, .inl (cy 0, 5, .inl (upd (upd (upd (upd (upd (fun _ => 0) 0 100) 1 100) 2 100) 3 100) 4 100)))] A s.heap H locs := hL
  refine lv_aload_n hx hb dX4_init_36 rfl (lv_at hl 0 rfl) ?_
  refine lv_iconst (v := 5) hx hb dX4_init_37 (by decide) ?_
  refine y_newI (N := 5) S hE hL har rfl (by decide) (Nat.le_of_ble_eq_true rfl) (Nat.le_of_ble_eq_true rfl) dX4_init_38 (fun q2 H hL => ?_)
  replace hL : yLS D [(h0, .inr (4, [.ref q1, .null, .null, .null, .null, .null, .int 0, .int 0, .int 0])), (q1, .inl (cy 0, 5, .inl (upd (upd (upd (upd (upd (fun _ => 0) 0 100) 1 100) 2 100) 3 100) 4 100))), (q2, .inl (cy 0, 5, .inl (fun _ => 0)))] A s.heap H locs := hL
  refine lv_dup hx hb dX4_init_40 rfl ?_
  refine lv_iconst (v := 0) hx hb dX4_init_41 (by decide) ?_
  refine lv_iconst (v := 5) hx hb dX4_init_42 (by decide) ?_
  refine y_ast S hE hL 2 (N := 5) (f := (fun _ => 0)) rfl 0 rfl (by decide) (by decide) dX4_init_43 (fun H locs hL => ?_)
  replace hL : yLS D [(h0, .inr (4, [.ref q1, .null, .null, .null, .null, .null, .int 0, .int 0, .int 0])), (q1, .inl (cy 0, 5, .inl (upd (upd (upd (upd (upd (fun _ => 0) 0 100) 1 100) 2 100) 3 100) 4 100))), (q2, .inl (cy 0, 5, .inl (upd (fun _ => 0) 0 5)))] A s.heap H locs := hL
  refine lv_dup hx hb dX4_init_44 rfl ?_
  refine lv_iconst (v := 1) hx hb dX4_init_45 (by decide) ?_
  refine lv_iconst (v := 5) hx hb dX4_init_46 (by decide) ?_
  refine y_ast S hE hL 2 (N := 5) (f := (upd (fun _ => 0) 0 5)) rfl 1 rfl (by decide) (by decide) dX4_init_47 (fun H locs hL => ?_)
  replace hL : yLS D [(h0, .inr (4, [.ref q1, .null, .null, .null, .null, .null, .int 0, .int 0, .int 0])), (q1, .inl (cy 0, 5, .inl (upd (upd (upd (upd (upd (fun _ => 0) 0 100) 1 100) 2 100) 3 100) 4 100))), (q2, .inl (cy 0, 5, .inl (upd (upd (fun _ => 0) 0 5) 1 5)))] A s.heap H locs := hL
  refine lv_dup hx hb dX4_init_48 rfl ?_
  refine lv_iconst (v := 2) hx hb dX4_init_49 (by decide) ?_
  refine lv_iconst (v := 5) hx hb dX4_init_50 (by decide) ?_
  refine y_ast S hE hL 2 (N := 5) (f := (upd (upd (fun _ => 0) 0 5) 1 5)) rfl 2 rfl (by decide) (by decide) dX4_init_51 (fun H locs hL => ?_)
  replace hL : yLS D [(h0, .inr (4, [.ref q1, .null, .null, .null, .null, .null, .int 0, .int 0, .int 0])), (q1, .inl (cy 0, 5, .inl (upd (upd (upd (upd (upd (fun _ => 0) 0 100) 1 100) 2 100) 3 100) 4 100))), (q2, .inl (cy 0, 5, .inl (upd (upd (upd (fun _ => 0) 0 5) 1 5) 2 5)))] A s.heap H locs := hL
  refine lv_dup hx hb dX4_init_52 rfl ?_
  refine lv_iconst (v := 3) hx hb dX4_init_53 (by decide) ?_
  refine lv_iconst (v := 5) hx hb dX4_init_54 (by decide) ?_
  refine y_ast S hE hL 2 (N := 5) (f := (upd (upd (upd (fun _ => 0) 0 5) 1 5) 2 5)) rfl 3 rfl (by decide) (by decide) dX4_init_55 (fun H locs hL => ?_)
  replace hL : yLS D [(h0, .inr (4, [.ref q1, .null, .null, .null, .null, .null, .int 0, .int 0, .int 0])), (q1, .inl (cy 0, 5, .inl (upd (upd (upd (upd (upd (fun _ => 0) 0 100) 1 100) 2 100) 3 100) 4 100))), (q2, .inl (cy 0, 5, .inl (upd (upd (upd (upd (fun _ => 0) 0 5) 1 5) 2 5) 3 5)))] A s.heap H locs := hL
  refine lv_dup hx hb dX4_init_56 rfl ?_
  refine lv_iconst (v := 4) hx hb dX4_init_57 (by decide) ?_
  refine lv_iconst (v := 5) hx hb dX4_init_58 (by decide) ?_
  refine y_ast S hE hL 2 (N := 5) (f := (upd (upd (upd (upd (fun _ => 0) 0 5) 1 5) 2 5) 3 5)) rfl 4 rfl (by decide) (by decide) dX4_init_59 (fun H locs hL => ?_)
  replace hL : yLS D [(h0, .inr (4, [.ref q1, .null, .null, .null, .null, .null, .int 0, .int 0, .int 0])), (q1, .inl (cy 0, 5, .inl (upd (upd (upd (upd (upd (fun _ => 0) 0 100) 1 100) 2 100) 3 100) 4 100))), (q2, .inl (cy 0, 5, .inl (upd (upd (upd (upd (upd (fun _ => 0) 0 5) 1 5) 2 5) 3 5) 4 5)))] A s.heap H locs := hL
  refine y_putR (C := RX4) (T := TX4) (N := 9) (ci := 4) (fs := [.ref q1, .null, .null, .null, .null, .null, .int 0, .int 0, .int 0]) S hE hL hi4 tyX4 tyX4_ok nmX4 rfl 0 rfl 1 (by decide) rfl f13 rfl rfl rfl (Nat.le_of_ble_eq_true rfl) dX4_init_60 (fun H locs hL => ?_)
  replace hL : yLS D [(h0, .inr (4, [.ref q1, .ref q2, .null, .null, .null, .null, .int 0, .int 0, .int 0])), (q1, .inl (cy 0, 5, .inl (upd (upd (upd (upd (upd (fun _ => 0) 0 100) 1 100) 2 100) 3 100) 4 100))), (q2, .inl (cy 0, 5, .inl (upd (upd (upd (upd (upd (fun _ => 0) 0 5) 1 5) 2 5) 3 5) 4 5)))] A s.heap H locs := hL
  refine lv_aload_n hx hb dX4_init_63 rfl (lv_at hl 0 rfl) ?_
  refine lv_bipush (v := 8) hx hb dX4_init_64 (by decide) ?_
  refine y_newI (N := 8) S hE hL har rfl (by decide) (Nat.le_of_ble_eq_true rfl) (Nat.le_of_ble_eq_true rfl) dX4_init_66 (fun q3 H hL => ?_)
  replace hL : yLS D [(h0, .inr (4, [.ref q1, .ref q2, .null, .null, .null, .null, .int 0, .int 0, .int 0])), (q1, .inl (cy 0, 5, .inl (upd (upd (upd (upd (upd (fun _ => 0) 0 100) 1 100) 2 100) 3 100) 4 100))), (q2, .inl (cy 0, 5, .inl (upd (upd (upd (upd (upd (fun _ => 0) 0 5) 1 5) 2 5) 3 5) 4 5))), (q3, .inl (cy 0, 8, .inl (fun _ => 0)))] A s.heap H locs := hL
  refine y_putR (C := RX4) (T := TX4) (N := 9) (ci := 4) (fs := [.ref q1, .ref q2, .null, .null, .null, .null, .int 0, .int 0, .int 0]) S hE hL hi4 tyX4 tyX4_ok nmX4 rfl 0 rfl 2 (by decide) rfl f16 rfl rfl rfl (Nat.le_of_ble_eq_true rfl) dX4_init_68 (fun H locs hL => ?_)
  replace hL : yLS D [(h0, .inr (4, [.ref q1, .ref q2, .ref q3, .null, .null, .null, .int 0, .int 0, .int 0])), (q1, .inl (cy 0, 5, .inl (upd (upd (upd (upd (upd (fun _ => 0) 0 100) 1 100) 2 100) 3 100) 4 100))), (q2, .inl (cy 0, 5, .inl (upd (upd (upd (upd (upd (fun _ => 0) 0 5) 1 5) 2 5) 3 5) 4 5))), (q3, .inl (cy 0, 8, .inl (fun _ => 0)))] A s.heap H locs := hL
  refine lv_aload_n hx hb dX4_init_71 rfl (lv_at hl 0 rfl) ?_
  refine lv_iconst (v := 0) hx hb dX4_init_72 (by decide) ?_
  refine y_newQ (N := 0) 4 (by decide) S hE hL k19 hE.1.2.2.1.2.2 rfl rfl (by decide) (Nat.le_of_ble_eq_true rfl) (Nat.le_of_ble_eq_true rfl) dX4_init_73 (fun q4 H hL => ?_)
  replace hL : yLS D [(h0, .inr (4, [.ref q1, .ref q2, .ref q3, .null, .null, .null, .int 0, .int 0, .int 0])), (q1, .inl (cy 0, 5, .inl (upd (upd (upd (upd (upd (fun _ => 0) 0 100) 1 100) 2 100) 3 100) 4 100))), (q2, .inl (cy 0, 5, .inl (upd (upd (upd (upd (upd (fun _ => 0) 0 5) 1 5) 2 5) 3 5) 4 5))), (q3, .inl (cy 0, 8, .inl (fun _ => 0))), (q4, .inl (cy 4, 0, .inr (.inr (.inr (.inr (fun _ => none))))))] A s.heap H locs := hL
  refine y_putR (C := RX4) (T := TX4) (N := 9) (ci := 4) (fs := [.ref q1, .ref q2, .ref q3, .null, .null, .null, .int 0, .int 0, .int 0]) S hE hL hi4 tyX4 tyX4_ok nmX4 rfl 0 rfl 3 (by decide) rfl f21 rfl rfl rfl (Nat.le_of_ble_eq_true rfl) dX4_init_76 (fun H locs hL => ?_)
  replace hL : yLS D [(h0, .inr (4, [.ref q1, .ref q2, .ref q3, .ref q4, .null, .null, .int 0, .int 0, .int 0])), (q1, .inl (cy 0, 5, .inl (upd (upd (upd (upd (upd (fun _ => 0) 0 100) 1 100) 2 100) 3 100) 4 100))), (q2, .inl (cy 0, 5, .inl (upd (upd (upd (upd (upd (fun _ => 0) 0 5) 1 5) 2 5) 3 5) 4 5))), (q3, .inl (cy 0, 8, .inl (fun _ => 0))), (q4, .inl (cy 4, 0, .inr (.inr (.inr (.inr (fun _ => none))))))] A s.heap H locs := hL
  refine lv_aload_n hx hb dX4_init_79 rfl (lv_at hl 0 rfl) ?_
  refine lv_iconst (v := 0) hx hb dX4_init_80 (by decide) ?_
  refine y_newA (N := 0) S hE hL k25 rfl (by decide) (Nat.le_of_ble_eq_true rfl) (Nat.le_of_ble_eq_true rfl) dX4_init_81 (fun q5 H _ _ hP hD hS => ?_)
  have hL : yLS D ([(h0, .inr (4, [.ref q1, .ref q2, .ref q3, .ref q4, .null, .null, .int 0, .int 0, .int 0])), (q1, .inl (cy 0, 5, .inl (upd (upd (upd (upd (upd (fun _ => 0) 0 100) 1 100) 2 100) 3 100) 4 100))), (q2, .inl (cy 0, 5, .inl (upd (upd (upd (upd (upd (fun _ => 0) 0 5) 1 5) 2 5) 3 5) 4 5))), (q3, .inl (cy 0, 8, .inl (fun _ => 0))), (q4, .inl (cy 4, 0, .inr (.inr (.inr (.inr (fun _ => none))))))] ++ [(q5, .inl (cy 3, 0, .inr (.inr (.inr (.inr (fun _ => none))))))]) A s.heap H locs := ⟨hP, hD, hS⟩
  replace hL : yLS D [(h0, .inr (4, [.ref q1, .ref q2, .ref q3, .ref q4, .null, .null, .int 0, .int 0, .int 0])), (q1, .inl (cy 0, 5, .inl (upd (upd (upd (upd (upd (fun _ => 0) 0 100) 1 100) 2 100) 3 100) 4 100))), (q2, .inl (cy 0, 5, .inl (upd (upd (upd (upd (upd (fun _ => 0) 0 5) 1 5) 2 5) 3 5) 4 5))), (q3, .inl (cy 0, 8, .inl (fun _ => 0))), (q4, .inl (cy 4, 0, .inr (.inr (.inr (.inr (fun _ => none)))))), (q5, .inl (cy 3, 0, .inr (.inr (.inr (.inr (fun _ => none))))))] A s.heap H locs := hL
  refine y_putR (C := RX4) (T := TX4) (N := 9) (ci := 4) (fs := [.ref q1, .ref q2, .ref q3, .ref q4, .null, .null, .int 0, .int 0, .int 0]) S hE hL hi4 tyX4 tyX4_ok nmX4 rfl 0 rfl 4 (by decide) rfl f26 rfl rfl rfl (Nat.le_of_ble_eq_true rfl) dX4_init_84 (fun H locs hL => ?_)
  replace hL : yLS D [(h0, .inr (4, [.ref q1, .ref q2, .ref q3, .ref q4, .ref q5, .null, .int 0, .int 0, .int 0])), (q1, .inl (cy 0, 5, .inl (upd (upd (upd (upd (upd (fun _ => 0) 0 100) 1 100) 2 100) 3 100) 4 100))), (q2, .inl (cy 0, 5, .inl (upd (upd (upd (upd (upd (fun _ => 0) 0 5) 1 5) 2 5) 3 5) 4 5))), (q3, .inl (cy 0, 8, .inl (fun _ => 0))), (q4, .inl (cy 4, 0, .inr (.inr (.inr (.inr (fun _ => none)))))), (q5, .inl (cy 3, 0, .inr (.inr (.inr (.inr (fun _ => none))))))] A s.heap H locs := hL
  refine lv_aload_n hx hb dX4_init_87 rfl (lv_at hl 0 rfl) ?_
  refine lv_iconst (v := 3) hx hb dX4_init_88 (by decide) ?_
  refine y_newI (N := 3) S hE hL har rfl (by decide) (Nat.le_of_ble_eq_true rfl) (Nat.le_of_ble_eq_true rfl) dX4_init_89 (fun q6 H hL => ?_)
  replace hL : yLS D [(h0, .inr (4, [.ref q1, .ref q2, .ref q3, .ref q4, .ref q5, .null, .int 0, .int 0, .int 0])), (q1, .inl (cy 0, 5, .inl (upd (upd (upd (upd (upd (fun _ => 0) 0 100) 1 100) 2 100) 3 100) 4 100))), (q2, .inl (cy 0, 5, .inl (upd (upd (upd (upd (upd (fun _ => 0) 0 5) 1 5) 2 5) 3 5) 4 5))), (q3, .inl (cy 0, 8, .inl (fun _ => 0))), (q4, .inl (cy 4, 0, .inr (.inr (.inr (.inr (fun _ => none)))))), (q5, .inl (cy 3, 0, .inr (.inr (.inr (.inr (fun _ => none)))))), (q6, .inl (cy 0, 3, .inl (fun _ => 0)))] A s.heap H locs := hL
  refine y_putR (C := RX4) (T := TX4) (N := 9) (ci := 4) (fs := [.ref q1, .ref q2, .ref q3, .ref q4, .ref q5, .null, .int 0, .int 0, .int 0]) S hE hL hi4 tyX4 tyX4_ok nmX4 rfl 0 rfl 5 (by decide) rfl f30 rfl rfl rfl (Nat.le_of_ble_eq_true rfl) dX4_init_91 (fun H locs hL => ?_)
  replace hL : yLS D [(h0, .inr (4, [.ref q1, .ref q2, .ref q3, .ref q4, .ref q5, .ref q6, .int 0, .int 0, .int 0])), (q1, .inl (cy 0, 5, .inl (upd (upd (upd (upd (upd (fun _ => 0) 0 100) 1 100) 2 100) 3 100) 4 100))), (q2, .inl (cy 0, 5, .inl (upd (upd (upd (upd (upd (fun _ => 0) 0 5) 1 5) 2 5) 3 5) 4 5))), (q3, .inl (cy 0, 8, .inl (fun _ => 0))), (q4, .inl (cy 4, 0, .inr (.inr (.inr (.inr (fun _ => none)))))), (q5, .inl (cy 3, 0, .inr (.inr (.inr (.inr (fun _ => none)))))), (q6, .inl (cy 0, 3, .inl (fun _ => 0)))] A s.heap H locs := hL
  refine W.widen (k := 6) (n := 21) (Nat.le_of_ble_eq_true rfl) (Nat.le_of_ble_eq_true rfl) ?_
  subst hAe
  exact W.vret hx hb hr (fun t ht _ => ⟨⟨(fun k => if k = 28 then h0 else if k = 29 then q1 else if k = 30 then q2 else if k = 31 then q3 else if k = 33 then q4 else if k = 34 then q5 else q6), rfl, rfl, by rw [ht]; exact hL.1, hL.2.1⟩, hL.2.2.F ht⟩) hL.2.2.2.2 dX4_init_94 hlk
