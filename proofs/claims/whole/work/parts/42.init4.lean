/-! the reference's constructor -/
section YI
variable {p : Program} {l : Launch} {e : Env} {R : Room} {s : State} {m : MethodId} {args : Array Value} {below : List Frame} {meth : Method} {c : Code} {H : Heap} {locs : List Loc} {cells slots : Nat} {Q : State → Prop}
variable {cc : ByteArray} {nL : Nat} {Ts : List Cond} {own : String} {pc : Nat} {ls : Array Slot} {rest : List Value} {D : va_G} {cy sa : Nat → Nat} {A : Nat → Prop} {ws : va_W} {a : Nat}
theorem y_ctorI {St : Type} {post : St → Prop} {f : St → va_W} {h : Nat} {e0 : va_E} {y : MethodName} {wsy : List Cond} {rm : Room} {mc ms : Nat} {index maxL : Nat} {bytes : ByteArray} {st0 : List Value} {X : State → Prop} (hXb : ∀ (U : State) (g : JFrame) (mk : MethodId) (a : Array Value), X U → X (U.calling g mk a)) (hX : ∀ U : State, s.WarmedH U.vm → X U) (S : CallFix p m c cc nL s args Ts own) (hE : ZEnv D cy sa A s) (hL : yLS D (ws ++ [(h, e0)]) A s.heap H locs)
    (hM : Met l y wsy rm (fun a U => PL D [(h, e0)] cy sa H.size [.ref h] a U ∧ X U) (QL D [(h, e0)] H.size post f) mc ms (va_A [(h, e0)] H.size)) (cw : CallB R s args own index y bytes maxL none wsy rm mc ms 0 ∧ y.name = "<init>" ∧ (Cond.instanceMethod y).before args s = true) (hz : ls.size = nL) (hst : st0 = .ref h :: rest) (hr : (rest.map fun v => v.category).sum ≤ 8) (hdg : decode cc pc = .ok (.invokespecial index, 3)) (hf : cells + mc ≤ R.cells ∧ slots + ms ≤ R.slots)
    (kk : ∀ (u : St) (H1 : Heap) (locs1 : List Loc), post u → yLS D (ws ++ f u) A s.heap H1 locs1 → W p l e R s m args below meth c H1 locs1 (cells + mc) (slots + ms) Q (F0 m (pc + 3) ls rest)) : W p l e R s m args below meth c H locs cells slots Q (F0 m pc ls st0) := by
  have hfr : ∀ q, va_A [(h, e0)] H.size q → A q := by
    intro q hz
    have hh : (ws ++ [(h, e0)])[ws.length]? = some (h, e0) := by rw [List.getElem?_append_right (Nat.le_refl _), Nat.sub_self]; rfl
    rcases hz with ⟨i, e9, hi⟩ | hz
    · have hi0 : i < 1 := (List.getElem?_eq_some_iff.mp hi).1
      rw [show i = 0 by omega] at hi
      have e1 : h = q := congrArg Prod.fst (Option.some.inj hi)
      rw [← e1]
      exact hL.2.1.2 ws.length (h, e0) hh
    · exact hE.2 _ (Nat.le_trans hL.2.2.1 hz)
  exact va_callv (va_runI (As := []) (rest := rest) S hM cw ⟨fun a U g mk hq => ⟨PL_blind a U g mk hq.1, hXb U g mk a hq.2⟩, fun U hU hW => ⟨yLS.pre hE hL U hU hW, hX U hW⟩⟩ rfl rfl hz hst (lv_room hr) hdg hf) hL.2.2 (fun q _ h => hfr q h) hfr (fun u t H1 locs1 ht hvm hp hB hz1 hk1 hS1 => kk u H1 locs1 hp (hL.join hE.2 (by rw [← ht]; exact hB.1) hB.2 hk1 hS1))
end YI
theorem slo_0 : slo al0 = fun _ => 0 := by
  have h0 : ix (al0 0 4) = 0 := by decide
  funext j
  unfold slo
  by_cases q : 72 ≤ j
  · rw [if_pos q]
  · rw [if_neg q, h0]
    have a1 : ∀ f : Nat, f ≠ 3 → al0 (10 + j / 12) f = 0 := fun f hf => by
      unfold al0
      rw [if_neg (by omega), if_neg (by omega), if_pos (by omega), if_neg hf]
    have a2 : ∀ f : Nat, al0 (17 + j / 12) f = 0 := fun f => by
      unfold al0
      rw [if_neg (by omega), if_neg (by omega), if_neg (by omega)]
    rw [a1 0 (by decide), a1 2 (by decide), a1 4 (by decide), a2, if_neg (Nat.not_lt_zero _)]
    simp
theorem fle_0 : fle al0 = fun _ => 0 := by
  funext j
  unfold fle
  by_cases q : 12 ≤ j
  · rw [if_pos q]
  · rw [if_neg q]
    unfold al0
    rw [if_neg (by omega), if_neg (by omega), if_neg (by omega)]
theorem num_0 : num al0 = fun _ => 0 := by
  funext j
  unfold num
  have a1 : al0 0 8 = 0 := rfl
  have a2 : al0 0 9 = 0 := rfl
  have a3 : al0 (6 + 0) 1 = 0 := rfl
  have a4 : ∀ f, al0 (8 + 0) f = 0 := fun _ => rfl
  rw [a1, a2, a3, a4]
  simp
/-- both sides side by side -/
theorem cC_M {cy ad : Nat → Nat} {al ta : Nat → Nat → Int32} {ex : Nat → va_E} : cC cy ad al (cM cy ad ta ex) = cM cy ad ta (cC cy ad al ex) := by
  funext k
  unfold cC cM
  by_cases h : k < 28
  · rw [if_pos h, if_neg (by omega)]
    exact (if_pos h).symm
  · rw [if_neg h]
    by_cases h2 : 28 ≤ k ∧ k < 35
    · rw [if_pos h2, if_pos h2]
    · rw [if_neg h2, if_neg h2]
      exact (if_neg h).symm
set_option maxHeartbeats 4000000 in
set_option maxRecDepth 100000 in
theorem cX4_init_ok (l : Launch) (D : va_G) (cy sa : Nat → Nat) (h0 : Nat) (sz : Nat) : Met l yX4_init wsX4_init ({ frames := 1, cells := 6, slots := 108, locals := 60 }) (PL D [(h0, .inr (4, [.int 0, .int 0, .int 0, .null, .null, .null, .null, .null, .null]))] cy sa sz [.ref h0]) (QL D [(h0, .inr (4, [.int 0, .int 0, .int 0, .null, .null, .null, .null, .null, .null]))] sz (fun u : Nat → Nat => u 0 = h0) (fun u => [(u 0, .inr (4, [.int 0, .int 0, .int 0, .ref (u 1), .ref (u 2), .ref (u 3), .ref (u 4), .ref (u 5), .ref (u 6)])), (u 1, .inl (cy 0, 5, .inl st0)), (u 2, .inl (cy 0, 5, .inl sw0)), (u 3, .inl (cy 0, 8, .inl (fun _ => 0))), (u 4, .inl (cy 0, 72, .inl (fun _ => 0))), (u 5, .inl (cy 0, 12, .inl (fun _ => 0))), (u 6, .inl (cy 0, 6, .inl (fun _ => 0)))])) 6 108 (va_A [(h0, .inr (4, [.int 0, .int 0, .int 0, .null, .null, .null, .null, .null, .null]))] sz) := by
  refine ys_met1 ?_
  refine ys_met (X := (fun _ => True)) (cc := cX4_init) (maxL := 1) (own := RX4) (by decide) rfl rfl rfl (Nat.le_of_ble_eq_true rfl) ?_
  intro p e s m args below meth c ls S hX hE hL hr hlk hin2 hsz hl
  subst hsz
  generalize hAe : va_A [(h0, .inr (4, [.int 0, .int 0, .int 0, .null, .null, .null, .null, .null, .null]))] s.heap.size = A at hE hL ⊢
  have hx := S.1
  have hb := S.2.1
  have hown := S.2.2.2.1
  have hts := S.2.2.2.2
  have hl : lv_has ls 1 [(0, .ref h0)] := hl
  obtain ⟨locs, hlc⟩ : ∃ z : List Loc, z = [] := ⟨_, rfl⟩
  rw [← hlc] at hL ⊢
  have ob1 := hts (.methodLink RX4 3 objectInit) (by decide +kernel)
  have ob2 := hts (.instanceMethod objectInit) (by decide +kernel)
  have ob3 := hts (.code objectInit ⟨#[0xb1]⟩ 1 none) (by decide +kernel)
  have har := hts (.arrayClass .int) (by decide +kernel)
  have f9 := hts (.fieldLink RX4 9 "PumiceSledgeModel" "stones" "[I") (by decide +kernel)
  have hi4 : ∀ w ∈ wsX40, w ∈ wsX4_init := by decide +kernel
  have f13 := hts (.fieldLink RX4 13 "PumiceSledgeModel" "weights" "[I") (by decide +kernel)
  have f16 := hts (.fieldLink RX4 16 "PumiceSledgeModel" "gusts" "[I") (by decide +kernel)
  have f19 := hts (.fieldLink RX4 19 "PumiceSledgeModel" "slope" "[I") (by decide +kernel)
  have f22 := hts (.fieldLink RX4 22 "PumiceSledgeModel" "fleet" "[I") (by decide +kernel)
  have f25 := hts (.fieldLink RX4 25 "PumiceSledgeModel" "numbers" "[I") (by decide +kernel)
  refine lv_aload_n hx hb dX4_init_0 rfl (lv_at hl 0 rfl) ?_
  refine W.objInit hx hb hown ob1 ob2 ob3 rfl (by rw [S.2.2.1]; exact hl.1) rfl dX4_init_1 (Nat.le_of_ble_eq_true rfl) (Nat.le_of_ble_eq_true rfl) ?_
  refine W.eq (g2 := F0 m 4 ls []) rfl ?_
  refine lv_aload_n hx hb dX4_init_4 rfl (lv_at hl 0 rfl) ?_
  refine lv_iconst (v := 5) hx hb dX4_init_5 (by decide) ?_
  refine y_newI (N := 5) S hE hL har rfl (by decide) (Nat.le_of_ble_eq_true rfl) (Nat.le_of_ble_eq_true rfl) dX4_init_6 (fun q1 H hL => ?_)
  replace hL : yLS D [(h0, .inr (4, [.int 0, .int 0, .int 0, .null, .null, .null, .null, .null, .null])), (q1, .inl (cy 0, 5, .inl (fun _ => 0)))] A s.heap H locs := hL
  refine lv_dup hx hb dX4_init_8 rfl ?_
  refine lv_iconst (v := 0) hx hb dX4_init_9 (by decide) ?_
  refine lv_bipush (v := 100) hx hb dX4_init_10 (by decide) ?_
  refine y_ast S hE hL 1 (N := 5) (f := (fun _ => 0)) rfl 0 rfl (by decide) (by decide) dX4_init_12 (fun H locs hL => ?_)
  replace hL : yLS D [(h0, .inr (4, [.int 0, .int 0, .int 0, .null, .null, .null, .null, .null, .null])), (q1, .inl (cy 0, 5, .inl (upd (fun _ => 0) 0 100)))] A s.heap H locs := hL
  refine lv_dup hx hb dX4_init_13 rfl ?_
  refine lv_iconst (v := 1) hx hb dX4_init_14 (by decide) ?_
  refine lv_bipush (v := 100) hx hb dX4_init_15 (by decide) ?_
  refine y_ast S hE hL 1 (N := 5) (f := (upd (fun _ => 0) 0 100)) rfl 1 rfl (by decide) (by decide) dX4_init_17 (fun H locs hL => ?_)
  replace hL : yLS D [(h0, .inr (4, [.int 0, .int 0, .int 0, .null, .null, .null, .null, .null, .null])), (q1, .inl (cy 0, 5, .inl (upd (upd (fun _ => 0) 0 100) 1 100)))] A s.heap H locs := hL
  refine lv_dup hx hb dX4_init_18 rfl ?_
  refine lv_iconst (v := 2) hx hb dX4_init_19 (by decide) ?_
  refine lv_bipush (v := 100) hx hb dX4_init_20 (by decide) ?_
  refine y_ast S hE hL 1 (N := 5) (f := (upd (upd (fun _ => 0) 0 100) 1 100)) rfl 2 rfl (by decide) (by decide) dX4_init_22 (fun H locs hL => ?_)
  replace hL : yLS D [(h0, .inr (4, [.int 0, .int 0, .int 0, .null, .null, .null, .null, .null, .null])), (q1, .inl (cy 0, 5, .inl (upd (upd (upd (fun _ => 0) 0 100) 1 100) 2 100)))] A s.heap H locs := hL
  refine lv_dup hx hb dX4_init_23 rfl ?_
  refine lv_iconst (v := 3) hx hb dX4_init_24 (by decide) ?_
  refine lv_bipush (v := 100) hx hb dX4_init_25 (by decide) ?_
  refine y_ast S hE hL 1 (N := 5) (f := (upd (upd (upd (fun _ => 0) 0 100) 1 100) 2 100)) rfl 3 rfl (by decide) (by decide) dX4_init_27 (fun H locs hL => ?_)
  replace hL : yLS D [(h0, .inr (4, [.int 0, .int 0, .int 0, .null, .null, .null, .null, .null, .null])), (q1, .inl (cy 0, 5, .inl (upd (upd (upd (upd (fun _ => 0) 0 100) 1 100) 2 100) 3 100)))] A s.heap H locs := hL
  refine lv_dup hx hb dX4_init_28 rfl ?_
  refine lv_iconst (v := 4) hx hb dX4_init_29 (by decide) ?_
  refine lv_bipush (v := 100) hx hb dX4_init_30 (by decide) ?_
  refine y_ast S hE hL 1 (N := 5) (f := (upd (upd (upd (upd (fun _ => 0) 0 100) 1 100) 2 100) 3 100)) rfl 4 rfl (by decide) (by decide) dX4_init_32 (fun H locs hL => ?_)
  replace hL : yLS D [(h0, .inr (4, [.int 0, .int 0, .int 0, .null, .null, .null, .null, .null, .null])), (q1, .inl (cy 0, 5, .inl (upd (upd (upd (upd (upd (fun _ => 0) 0 100) 1 100) 2 100) 3 100) 4 100)))] A s.heap H locs := hL
  refine y_putF (C := RX4) (T := TX4) (N := 9) (ci := 4) (fs := [.int 0, .int 0, .int 0, .null, .null, .null, .null, .null, .null]) S hE hL hi4 tyX4 tyX4_ok nmX4 hin2 rfl 0 rfl 3 (by decide) rfl f9 rfl rfl rfl (Nat.le_of_ble_eq_true rfl) dX4_init_33 (fun H locs hL => ?_)
  replace hL : yLS D [(h0, .inr (4, [.int 0, .int 0, .int 0, .ref q1, .null, .null, .null, .null, .null])), (q1, .inl (cy 0, 5, .inl (upd (upd (upd (upd (upd (fun _ => 0) 0 100) 1 100) 2 100) 3 100) 4 100)))] A s.heap H locs := hL
  refine lv_aload_n hx hb dX4_init_36 rfl (lv_at hl 0 rfl) ?_
  refine lv_iconst (v := 5) hx hb dX4_init_37 (by decide) ?_
  refine y_newI (N := 5) S hE hL har rfl (by decide) (Nat.le_of_ble_eq_true rfl) (Nat.le_of_ble_eq_true rfl) dX4_init_38 (fun q2 H hL => ?_)
  replace hL : yLS D [(h0, .inr (4, [.int 0, .int 0, .int 0, .ref q1, .null, .null, .null, .null, .null])), (q1, .inl (cy 0, 5, .inl (upd (upd (upd (upd (upd (fun _ => 0) 0 100) 1 100) 2 100) 3 100) 4 100))), (q2, .inl (cy 0, 5, .inl (fun _ => 0)))] A s.heap H locs := hL
  refine lv_dup hx hb dX4_init_40 rfl ?_
  refine lv_iconst (v := 0) hx hb dX4_init_41 (by decide) ?_
  refine lv_iconst (v := 5) hx hb dX4_init_42 (by decide) ?_
  refine y_ast S hE hL 2 (N := 5) (f := (fun _ => 0)) rfl 0 rfl (by decide) (by decide) dX4_init_43 (fun H locs hL => ?_)
  replace hL : yLS D [(h0, .inr (4, [.int 0, .int 0, .int 0, .ref q1, .null, .null, .null, .null, .null])), (q1, .inl (cy 0, 5, .inl (upd (upd (upd (upd (upd (fun _ => 0) 0 100) 1 100) 2 100) 3 100) 4 100))), (q2, .inl (cy 0, 5, .inl (upd (fun _ => 0) 0 5)))] A s.heap H locs := hL
  refine lv_dup hx hb dX4_init_44 rfl ?_
  refine lv_iconst (v := 1) hx hb dX4_init_45 (by decide) ?_
  refine lv_iconst (v := 5) hx hb dX4_init_46 (by decide) ?_
  refine y_ast S hE hL 2 (N := 5) (f := (upd (fun _ => 0) 0 5)) rfl 1 rfl (by decide) (by decide) dX4_init_47 (fun H locs hL => ?_)
  replace hL : yLS D [(h0, .inr (4, [.int 0, .int 0, .int 0, .ref q1, .null, .null, .null, .null, .null])), (q1, .inl (cy 0, 5, .inl (upd (upd (upd (upd (upd (fun _ => 0) 0 100) 1 100) 2 100) 3 100) 4 100))), (q2, .inl (cy 0, 5, .inl (upd (upd (fun _ => 0) 0 5) 1 5)))] A s.heap H locs := hL
  refine lv_dup hx hb dX4_init_48 rfl ?_
  refine lv_iconst (v := 2) hx hb dX4_init_49 (by decide) ?_
  refine lv_iconst (v := 5) hx hb dX4_init_50 (by decide) ?_
  refine y_ast S hE hL 2 (N := 5) (f := (upd (upd (fun _ => 0) 0 5) 1 5)) rfl 2 rfl (by decide) (by decide) dX4_init_51 (fun H locs hL => ?_)
  replace hL : yLS D [(h0, .inr (4, [.int 0, .int 0, .int 0, .ref q1, .null, .null, .null, .null, .null])), (q1, .inl (cy 0, 5, .inl (upd (upd (upd (upd (upd (fun _ => 0) 0 100) 1 100) 2 100) 3 100) 4 100))), (q2, .inl (cy 0, 5, .inl (upd (upd (upd (fun _ => 0) 0 5) 1 5) 2 5)))] A s.heap H locs := hL
  refine lv_dup hx hb dX4_init_52 rfl ?_
  refine lv_iconst (v := 3) hx hb dX4_init_53 (by decide) ?_
  refine lv_iconst (v := 5) hx hb dX4_init_54 (by decide) ?_
  refine y_ast S hE hL 2 (N := 5) (f := (upd (upd (upd (fun _ => 0) 0 5) 1 5) 2 5)) rfl 3 rfl (by decide) (by decide) dX4_init_55 (fun H locs hL => ?_)
  replace hL : yLS D [(h0, .inr (4, [.int 0, .int 0, .int 0, .ref q1, .null, .null, .null, .null, .null])), (q1, .inl (cy 0, 5, .inl (upd (upd (upd (upd (upd (fun _ => 0) 0 100) 1 100) 2 100) 3 100) 4 100))), (q2, .inl (cy 0, 5, .inl (upd (upd (upd (upd (fun _ => 0) 0 5) 1 5) 2 5) 3 5)))] A s.heap H locs := hL
  refine lv_dup hx hb dX4_init_56 rfl ?_
  refine lv_iconst (v := 4) hx hb dX4_init_57 (by decide) ?_
  refine lv_iconst (v := 5) hx hb dX4_init_58 (by decide) ?_
  refine y_ast S hE hL 2 (N := 5) (f := (upd (upd (upd (upd (fun _ => 0) 0 5) 1 5) 2 5) 3 5)) rfl 4 rfl (by decide) (by decide) dX4_init_59 (fun H locs hL => ?_)
  replace hL : yLS D [(h0, .inr (4, [.int 0, .int 0, .int 0, .ref q1, .null, .null, .null, .null, .null])), (q1, .inl (cy 0, 5, .inl (upd (upd (upd (upd (upd (fun _ => 0) 0 100) 1 100) 2 100) 3 100) 4 100))), (q2, .inl (cy 0, 5, .inl (upd (upd (upd (upd (upd (fun _ => 0) 0 5) 1 5) 2 5) 3 5) 4 5)))] A s.heap H locs := hL
  refine y_putF (C := RX4) (T := TX4) (N := 9) (ci := 4) (fs := [.int 0, .int 0, .int 0, .ref q1, .null, .null, .null, .null, .null]) S hE hL hi4 tyX4 tyX4_ok nmX4 hin2 rfl 0 rfl 4 (by decide) rfl f13 rfl rfl rfl (Nat.le_of_ble_eq_true rfl) dX4_init_60 (fun H locs hL => ?_)
  replace hL : yLS D [(h0, .inr (4, [.int 0, .int 0, .int 0, .ref q1, .ref q2, .null, .null, .null, .null])), (q1, .inl (cy 0, 5, .inl (upd (upd (upd (upd (upd (fun _ => 0) 0 100) 1 100) 2 100) 3 100) 4 100))), (q2, .inl (cy 0, 5, .inl (upd (upd (upd (upd (upd (fun _ => 0) 0 5) 1 5) 2 5) 3 5) 4 5)))] A s.heap H locs := hL
  refine lv_aload_n hx hb dX4_init_63 rfl (lv_at hl 0 rfl) ?_
  refine lv_bipush (v := 8) hx hb dX4_init_64 (by decide) ?_
  refine y_newI (N := 8) S hE hL har rfl (by decide) (Nat.le_of_ble_eq_true rfl) (Nat.le_of_ble_eq_true rfl) dX4_init_66 (fun q3 H hL => ?_)
  replace hL : yLS D [(h0, .inr (4, [.int 0, .int 0, .int 0, .ref q1, .ref q2, .null, .null, .null, .null])), (q1, .inl (cy 0, 5, .inl (upd (upd (upd (upd (upd (fun _ => 0) 0 100) 1 100) 2 100) 3 100) 4 100))), (q2, .inl (cy 0, 5, .inl (upd (upd (upd (upd (upd (fun _ => 0) 0 5) 1 5) 2 5) 3 5) 4 5))), (q3, .inl (cy 0, 8, .inl (fun _ => 0)))] A s.heap H locs := hL
  refine y_putF (C := RX4) (T := TX4) (N := 9) (ci := 4) (fs := [.int 0, .int 0, .int 0, .ref q1, .ref q2, .null, .null, .null, .null]) S hE hL hi4 tyX4 tyX4_ok nmX4 hin2 rfl 0 rfl 5 (by decide) rfl f16 rfl rfl rfl (Nat.le_of_ble_eq_true rfl) dX4_init_68 (fun H locs hL => ?_)
  replace hL : yLS D [(h0, .inr (4, [.int 0, .int 0, .int 0, .ref q1, .ref q2, .ref q3, .null, .null, .null])), (q1, .inl (cy 0, 5, .inl (upd (upd (upd (upd (upd (fun _ => 0) 0 100) 1 100) 2 100) 3 100) 4 100))), (q2, .inl (cy 0, 5, .inl (upd (upd (upd (upd (upd (fun _ => 0) 0 5) 1 5) 2 5) 3 5) 4 5))), (q3, .inl (cy 0, 8, .inl (fun _ => 0)))] A s.heap H locs := hL
  refine lv_aload_n hx hb dX4_init_71 rfl (lv_at hl 0 rfl) ?_
  refine lv_bipush (v := 72) hx hb dX4_init_72 (by decide) ?_
  refine y_newI (N := 72) S hE hL har rfl (by decide) (Nat.le_of_ble_eq_true rfl) (Nat.le_of_ble_eq_true rfl) dX4_init_74 (fun q4 H hL => ?_)
  replace hL : yLS D [(h0, .inr (4, [.int 0, .int 0, .int 0, .ref q1, .ref q2, .ref q3, .null, .null, .null])), (q1, .inl (cy 0, 5, .inl (upd (upd (upd (upd (upd (fun _ => 0) 0 100) 1 100) 2 100) 3 100) 4 100))), (q2, .inl (cy 0, 5, .inl (upd (upd (upd (upd (upd (fun _ => 0) 0 5) 1 5) 2 5) 3 5) 4 5))), (q3, .inl (cy 0, 8, .inl (fun _ => 0))), (q4, .inl (cy 0, 72, .inl (fun _ => 0)))] A s.heap H locs := hL
  refine y_putF (C := RX4) (T := TX4) (N := 9) (ci := 4) (fs := [.int 0, .int 0, .int 0, .ref q1, .ref q2, .ref q3, .null, .null, .null]) S hE hL hi4 tyX4 tyX4_ok nmX4 hin2 rfl 0 rfl 6 (by decide) rfl f19 rfl rfl rfl (Nat.le_of_ble_eq_true rfl) dX4_init_76 (fun H locs hL => ?_)
  replace hL : yLS D [(h0, .inr (4, [.int 0, .int 0, .int 0, .ref q1, .ref q2, .ref q3, .ref q4, .null, .null])), (q1, .inl (cy 0, 5, .inl (upd (upd (upd (upd (upd (fun _ => 0) 0 100) 1 100) 2 100) 3 100) 4 100))), (q2, .inl (cy 0, 5, .inl (upd (upd (upd (upd (upd (fun _ => 0) 0 5) 1 5) 2 5) 3 5) 4 5))), (q3, .inl (cy 0, 8, .inl (fun _ => 0))), (q4, .inl (cy 0, 72, .inl (fun _ => 0)))] A s.heap H locs := hL
  refine lv_aload_n hx hb dX4_init_79 rfl (lv_at hl 0 rfl) ?_
  refine lv_bipush (v := 12) hx hb dX4_init_80 (by decide) ?_
  refine y_newI (N := 12) S hE hL har rfl (by decide) (Nat.le_of_ble_eq_true rfl) (Nat.le_of_ble_eq_true rfl) dX4_init_82 (fun q5 H hL => ?_)
  replace hL : yLS D [(h0, .inr (4, [.int 0, .int 0, .int 0, .ref q1, .ref q2, .ref q3, .ref q4, .null, .null])), (q1, .inl (cy 0, 5, .inl (upd (upd (upd (upd (upd (fun _ => 0) 0 100) 1 100) 2 100) 3 100) 4 100))), (q2, .inl (cy 0, 5, .inl (upd (upd (upd (upd (upd (fun _ => 0) 0 5) 1 5) 2 5) 3 5) 4 5))), (q3, .inl (cy 0, 8, .inl (fun _ => 0))), (q4, .inl (cy 0, 72, .inl (fun _ => 0))), (q5, .inl (cy 0, 12, .inl (fun _ => 0)))] A s.heap H locs := hL
  refine y_putF (C := RX4) (T := TX4) (N := 9) (ci := 4) (fs := [.int 0, .int 0, .int 0, .ref q1, .ref q2, .ref q3, .ref q4, .null, .null]) S hE hL hi4 tyX4 tyX4_ok nmX4 hin2 rfl 0 rfl 7 (by decide) rfl f22 rfl rfl rfl (Nat.le_of_ble_eq_true rfl) dX4_init_84 (fun H locs hL => ?_)
  replace hL : yLS D [(h0, .inr (4, [.int 0, .int 0, .int 0, .ref q1, .ref q2, .ref q3, .ref q4, .ref q5, .null])), (q1, .inl (cy 0, 5, .inl (upd (upd (upd (upd (upd (fun _ => 0) 0 100) 1 100) 2 100) 3 100) 4 100))), (q2, .inl (cy 0, 5, .inl (upd (upd (upd (upd (upd (fun _ => 0) 0 5) 1 5) 2 5) 3 5) 4 5))), (q3, .inl (cy 0, 8, .inl (fun _ => 0))), (q4, .inl (cy 0, 72, .inl (fun _ => 0))), (q5, .inl (cy 0, 12, .inl (fun _ => 0)))] A s.heap H locs := hL
  refine lv_aload_n hx hb dX4_init_87 rfl (lv_at hl 0 rfl) ?_
  refine lv_bipush (v := 6) hx hb dX4_init_88 (by decide) ?_
  refine y_newI (N := 6) S hE hL har rfl (by decide) (Nat.le_of_ble_eq_true rfl) (Nat.le_of_ble_eq_true rfl) dX4_init_90 (fun q6 H hL => ?_)
  replace hL : yLS D [(h0, .inr (4, [.int 0, .int 0, .int 0, .ref q1, .ref q2, .ref q3, .ref q4, .ref q5, .null])), (q1, .inl (cy 0, 5, .inl (upd (upd (upd (upd (upd (fun _ => 0) 0 100) 1 100) 2 100) 3 100) 4 100))), (q2, .inl (cy 0, 5, .inl (upd (upd (upd (upd (upd (fun _ => 0) 0 5) 1 5) 2 5) 3 5) 4 5))), (q3, .inl (cy 0, 8, .inl (fun _ => 0))), (q4, .inl (cy 0, 72, .inl (fun _ => 0))), (q5, .inl (cy 0, 12, .inl (fun _ => 0))), (q6, .inl (cy 0, 6, .inl (fun _ => 0)))] A s.heap H locs := hL
  refine y_putF (C := RX4) (T := TX4) (N := 9) (ci := 4) (fs := [.int 0, .int 0, .int 0, .ref q1, .ref q2, .ref q3, .ref q4, .ref q5, .null]) S hE hL hi4 tyX4 tyX4_ok nmX4 hin2 rfl 0 rfl 8 (by decide) rfl f25 rfl rfl rfl (Nat.le_of_ble_eq_true rfl) dX4_init_92 (fun H locs hL => ?_)
  replace hL : yLS D [(h0, .inr (4, [.int 0, .int 0, .int 0, .ref q1, .ref q2, .ref q3, .ref q4, .ref q5, .ref q6])), (q1, .inl (cy 0, 5, .inl (upd (upd (upd (upd (upd (fun _ => 0) 0 100) 1 100) 2 100) 3 100) 4 100))), (q2, .inl (cy 0, 5, .inl (upd (upd (upd (upd (upd (fun _ => 0) 0 5) 1 5) 2 5) 3 5) 4 5))), (q3, .inl (cy 0, 8, .inl (fun _ => 0))), (q4, .inl (cy 0, 72, .inl (fun _ => 0))), (q5, .inl (cy 0, 12, .inl (fun _ => 0))), (q6, .inl (cy 0, 6, .inl (fun _ => 0)))] A s.heap H locs := hL
  refine W.widen (k := 6) (n := 108) (Nat.le_of_ble_eq_true rfl) (Nat.le_of_ble_eq_true rfl) ?_
  obtain ⟨u, hu⟩ : ∃ u : Nat → Nat, u = fun k => ([h0, q1, q2, q3, q4, q5, q6] : List Nat).getD k 0 := ⟨_, rfl⟩
  have u0 : u 0 = h0 := by rw [hu]; rfl
  have u1 : u 1 = q1 := by rw [hu]; rfl
  have u2 : u 2 = q2 := by rw [hu]; rfl
  have u3 : u 3 = q3 := by rw [hu]; rfl
  have u4 : u 4 = q4 := by rw [hu]; rfl
  have u5 : u 5 = q5 := by rw [hu]; rfl
  have u6 : u 6 = q6 := by rw [hu]; rfl
  have hu9 : u 0 = h0 := u0
  replace hL : yLS D [(u 0, .inr (4, [.int 0, .int 0, .int 0, .ref (u 1), .ref (u 2), .ref (u 3), .ref (u 4), .ref (u 5), .ref (u 6)])), (u 1, .inl (cy 0, 5, .inl st0)), (u 2, .inl (cy 0, 5, .inl sw0)), (u 3, .inl (cy 0, 8, .inl (fun _ => 0))), (u 4, .inl (cy 0, 72, .inl (fun _ => 0))), (u 5, .inl (cy 0, 12, .inl (fun _ => 0))), (u 6, .inl (cy 0, 6, .inl (fun _ => 0)))] A s.heap H locs := by
    rw [u0, u1, u2, u3, u4, u5, u6]
    exact hL
  subst hAe
  exact W.vret hx hb hr (fun t ht _ => ⟨⟨u, rfl, hu9, by rw [ht]; exact hL.1, hL.2.1⟩, hL.2.2.F ht⟩) hL.2.2.2.2 dX4_init_95 hlk
