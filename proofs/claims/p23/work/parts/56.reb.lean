/-! A sledge more, a boat more: the law's slope in its order again. -/
def slF (ad : Nat → Nat) (v : Nat) : Nat → Option Nat := fun q => if q < v then some (ad (35 + 2 * q)) else none
theorem slF_0 {ad : Nat → Nat} : (fun _ => none : Nat → Option Nat) = slF ad 0 := by
  funext q
  exact (if_neg (Nat.not_lt_zero q)).symm
theorem slF_s {ad : Nat → Nat} {v : Nat} : va_up (slF ad v) v (some (ad (35 + 2 * v))) = slF ad (v + 1) := by
  funext q
  by_cases h : q = v
  · subst h
    rw [va_up_self]
    exact (if_pos (Nat.lt_succ_self q)).symm
  · rw [va_up_ne _ _ h]
    unfold slF
    by_cases h2 : q < v
    · rw [if_pos h2, if_pos (by omega)]
    · rw [if_neg h2, if_neg (by omega)]
def blF (ad : Nat → Nat) (N v : Nat) : Nat → Option Nat := fun q => if q < v then some (ad (35 + 2 * N + q)) else none
theorem blF_0 {ad : Nat → Nat} {N : Nat} : (fun _ => none : Nat → Option Nat) = blF ad N 0 := by
  funext q
  exact (if_neg (Nat.not_lt_zero q)).symm
theorem blF_s {ad : Nat → Nat} {N v : Nat} : va_up (blF ad N v) v (some (ad (35 + 2 * N + v))) = blF ad N (v + 1) := by
  funext q
  by_cases h : q = v
  · subst h
    rw [va_up_self]
    exact (if_pos (Nat.lt_succ_self q)).symm
  · rw [va_up_ne _ _ h]
    unfold blF
    by_cases h2 : q < v
    · rw [if_pos h2, if_pos (by omega)]
    · rw [if_neg h2, if_neg (by omega)]
def piB (N n k : Nat) : Nat := if k = 33 then n else if k < 35 + 2 * N then k else if k = 35 + 2 * N then n + 1 else if k = 36 + 2 * N then n + 2 else k - 2
def piL (n k : Nat) : Nat := if k = 34 then n else if k = n then n + 1 else k
section RB
variable {D : va_G} {cy ad : Nat → Nat} {N B : Nat} {al : Nat → Nat → Int32} {ex : Nat → va_E} {A : Nat → Prop} {H0 H : Heap} {locs : List Loc}
theorem piB_lo {N n k : Nat} (h : k < 35 + 2 * N) (h3 : k ≠ 33) : piB N n k = k := by
  unfold piB
  rw [if_neg h3, if_pos h]
theorem piB_33 {N n : Nat} : piB N n 33 = n := if_pos rfl
theorem piB_o {N n : Nat} : piB N n (35 + 2 * N) = n + 1 := by
  unfold piB
  rw [if_neg (by omega), if_neg (by omega), if_pos rfl]
theorem piB_a {N n : Nat} : piB N n (36 + 2 * N) = n + 2 := by
  unfold piB
  rw [if_neg (by omega), if_neg (by omega), if_neg (by omega), if_pos rfl]
theorem piB_b {N n b : Nat} : piB N n (35 + 2 * (N + 1) + b) = 35 + 2 * N + b := by
  unfold piB
  rw [if_neg (by omega), if_neg (by omega), if_neg (by omega), if_neg (by omega)]
  omega
theorem build_re {v : Int32} {F : Nat → Option Nat} (hN6 : N < 6) (hF : ∀ q, q < N → F q = some (ad (35 + 2 * q))) (hFN : F N = some (ad ((35 + 2 * N + B) + 1))) (h3 : al (10 + N) 3 = 20) (h4 : al (10 + N) 4 = 0) (h2 : al (10 + N) 2 = 0)
    (hW : WS D ((35 + 2 * N + B) + 3) ad (cen (sW cy ad N B al al (cen (cen (cen ex (35 + 2 * N + B) (.inl (cy 4, N + 1, .inr (.inr (.inr (.inr F)))))) ((35 + 2 * N + B) + 1) (.inr (5, [.int v, .int 20, .int 0, .ref (ad ((35 + 2 * N + B) + 2))]))) ((35 + 2 * N + B) + 2) (.inl (cy 0, 0, .inl (fun _ => 0))))) 28 (.inr (4, [.ref (ad 29), .ref (ad 30), .ref (ad 31), .ref (ad (35 + 2 * N + B)), .ref (ad 34), .ref (ad 32), .int (al 0 8), .int (al 0 9), .int (al (6 + 0) 1)]))) A H0 H locs) :
    WS D (35 + 2 * (N + 1) + B) (fun k => ad (piB N (35 + 2 * N + B) k)) (sW cy (fun k => ad (piB N (35 + 2 * N + B) k)) (N + 1) B al (zup al (10 + N) 0 v) ex) A H0 H locs := by
  have q33 := @piB_33 N (35 + 2 * N + B)
  have qo := @piB_o N (35 + 2 * N + B)
  have qa := @piB_a N (35 + 2 * N + B)
  refine WS_re (piB N (35 + 2 * N + B)) (fun k hk => ⟨?_, rfl, ?_⟩) (fun x y hx hy e => ?_) hW
  · unfold piB
    split
    · omega
    · split
      · omega
      · split
        · omega
        · split <;> omega
  · by_cases h28 : k < 28
    · rw [piB_lo (by omega) (by omega), cen_o (by omega)]
      exact cC_vpe h28 (fun j hj => by show ad (piB _ _ j) = _; rw [piB_lo (by omega) (by omega)])
    · rcases sW_where (N := N + 1) (B := B) (k := k) (by omega) (by omega) with rfl | rfl | rfl | rfl | rfl | rfl | rfl | ⟨i, hi, rfl⟩ | ⟨i, hi, rfl⟩ | ⟨b, hb, rfl⟩
      · rw [piB_lo (by omega) (by omega), cen_k, sW_28]
        refine vpe_of ?_
        rw [zup_o (by omega), zup_o (by omega)]
        simp only [q33, piB_lo (N := N) (n := 35 + 2 * N + B) (k := 29) (by omega) (by omega), piB_lo (N := N) (n := 35 + 2 * N + B) (k := 30) (by omega) (by omega), piB_lo (N := N) (n := 35 + 2 * N + B) (k := 31) (by omega) (by omega), piB_lo (N := N) (n := 35 + 2 * N + B) (k := 32) (by omega) (by omega), piB_lo (N := N) (n := 35 + 2 * N + B) (k := 34) (by omega) (by omega)]
      · rw [piB_lo (by omega) (by omega), cen_o (by omega), sW_29, sW_29, zup_o (by omega)]; exact vpe_rf
      · rw [piB_lo (by omega) (by omega), cen_o (by omega), sW_30, sW_30, zup_o (by omega)]; exact vpe_rf
      · rw [piB_lo (by omega) (by omega), cen_o (by omega), sW_31, sW_31, zup_o (by omega)]; exact vpe_rf
      · rw [piB_lo (by omega) (by omega), cen_o (by omega), sW_32, sW_32, zup_o (by omega)]; exact vpe_rf
      · rw [q33, cen_o (by omega), sW_x (by omega), cen_o (by omega), cen_o (by omega), cen_k, sW_33]
        refine vpe_q (fun i hi => ?_)
        by_cases e : i = N
        · subst e
          rw [hFN, qo]
        · rw [hF i (by omega), piB_lo (by omega) (by omega)]
      · rw [piB_lo (by omega) (by omega), cen_o (by omega), sW_34, sW_34]
        exact vpe_q (fun b hb => by rw [piB_b])
      · by_cases e : i = N
        · subst e
          rw [qo, cen_o (by omega), sW_x (by omega), cen_o (by omega), cen_k, sW_so hi]
          refine vpe_of ?_
          rw [zup_k, up_s, up_n (by decide), up_n (by decide), h3, h4, qa]
        · rw [piB_lo (by omega) (by omega), cen_o (by omega), sW_so (by omega), sW_so hi, zup_o (by omega)]
          refine vpe_of ?_
          rw [piB_lo (by omega) (by omega)]
      · by_cases e : i = N
        · subst e
          rw [qa, cen_o (by omega), sW_x (by omega), cen_k, sW_sal (a := 0) hi (by rw [zup_k, up_n (by decide), h2]; rfl) (by decide)]
          exact vpe_i (fun q hq => absurd hq (Nat.not_lt_zero q))
        · rw [piB_lo (by omega) (by omega), cen_o (by omega), sW_sa (by omega), sW_sa hi, zup_o (by omega), zup_o (by omega)]
          exact vpe_rf
      · rw [piB_b, cen_o (by omega), sW_bb hb, sW_bb hb, zup_o (by omega)]
        exact vpe_rf
  · unfold piB at e
    split at e <;> split at e <;> (try split at e) <;> (try split at e) <;> (try split at e) <;> (try split at e) <;> (try split at e) <;> (try split at e) <;> omega
theorem piL_lo {n k : Nat} (h : k < n) (h3 : k ≠ 34) : piL n k = k := by
  unfold piL
  rw [if_neg h3, if_neg (by omega)]
theorem piL_34 {n : Nat} : piL n 34 = n := if_pos rfl
theorem piL_n {n : Nat} (h : 34 < n) : piL n n = n + 1 := by
  unfold piL
  rw [if_neg (by omega), if_pos rfl]
theorem launch_re {v : Int32} {F : Nat → Option Nat} {G : Nat → Int32} (hN6 : N ≤ 6) (hF : ∀ q, q < B → F q = some (ad (35 + 2 * N + q))) (hFB : F B = some (ad ((35 + 2 * N + B) + 1))) (hG : ∀ q, q < 3 → G q = (zup al (24 + B) 0 v) (24 + B) q)
    (hW : WS D ((35 + 2 * N + B) + 2) ad (cen (sW cy ad N B al al (cen (cen ex (35 + 2 * N + B) (.inl (cy 3, B + 1, .inr (.inr (.inr (.inr F)))))) ((35 + 2 * N + B) + 1) (.inl (cy 0, 3, .inl G)))) 28 (.inr (4, [.ref (ad 29), .ref (ad 30), .ref (ad 31), .ref (ad 33), .ref (ad (35 + 2 * N + B)), .ref (ad 32), .int (al 0 8), .int (al 0 9), .int (al (6 + 0) 1)]))) A H0 H locs) :
    WS D (35 + 2 * N + (B + 1)) (fun k => ad (piL (35 + 2 * N + B) k)) (sW cy (fun k => ad (piL (35 + 2 * N + B) k)) N (B + 1) al (zup al (24 + B) 0 v) ex) A H0 H locs := by
  have q34 := @piL_34 (35 + 2 * N + B)
  have qn := @piL_n (35 + 2 * N + B) (by omega)
  refine WS_re (piL (35 + 2 * N + B)) (fun k hk => ⟨?_, rfl, ?_⟩) (fun x y hx hy e => ?_) hW
  · unfold piL
    split
    · omega
    · split <;> omega
  · by_cases h28 : k < 28
    · rw [piL_lo (by omega) (by omega), cen_o (by omega)]
      exact cC_vpe h28 (fun j hj => by show ad (piL _ j) = _; rw [piL_lo (by omega) (by omega)])
    · rcases sW_where (N := N) (B := B + 1) (k := k) (by omega) (by omega) with rfl | rfl | rfl | rfl | rfl | rfl | rfl | ⟨i, hi, rfl⟩ | ⟨i, hi, rfl⟩ | ⟨b, hb, rfl⟩
      · rw [piL_lo (by omega) (by omega), cen_k, sW_28]
        refine vpe_of ?_
        rw [zup_o (by omega), zup_o (by omega)]
        simp only [q34, piL_lo (n := 35 + 2 * N + B) (k := 29) (by omega) (by omega), piL_lo (n := 35 + 2 * N + B) (k := 30) (by omega) (by omega), piL_lo (n := 35 + 2 * N + B) (k := 31) (by omega) (by omega), piL_lo (n := 35 + 2 * N + B) (k := 32) (by omega) (by omega), piL_lo (n := 35 + 2 * N + B) (k := 33) (by omega) (by omega)]
      · rw [piL_lo (by omega) (by omega), cen_o (by omega), sW_29, sW_29, zup_o (by omega)]; exact vpe_rf
      · rw [piL_lo (by omega) (by omega), cen_o (by omega), sW_30, sW_30, zup_o (by omega)]; exact vpe_rf
      · rw [piL_lo (by omega) (by omega), cen_o (by omega), sW_31, sW_31, zup_o (by omega)]; exact vpe_rf
      · rw [piL_lo (by omega) (by omega), cen_o (by omega), sW_32, sW_32, zup_o (by omega)]; exact vpe_rf
      · rw [piL_lo (by omega) (by omega), cen_o (by omega), sW_33, sW_33]
        exact vpe_q (fun i hi => by rw [piL_lo (by omega) (by omega)])
      · rw [q34, cen_o (by omega), sW_x (by omega), cen_o (by omega), cen_k, sW_34]
        refine vpe_q (fun b hb => ?_)
        by_cases e : b = B
        · subst e
          rw [hFB, qn]
        · rw [hF b (by omega), piL_lo (by omega) (by omega)]
      · rw [piL_lo (by omega) (by omega), cen_o (by omega), sW_so hi, sW_so hi, zup_o (by omega)]
        refine vpe_of ?_
        rw [piL_lo (by omega) (by omega)]
      · rw [piL_lo (by omega) (by omega), cen_o (by omega), sW_sa hi, sW_sa hi, zup_o (by omega), zup_o (by omega)]
        exact vpe_rf
      · by_cases e : b = B
        · subst e
          rw [qn, cen_o (by omega), sW_x (by omega), cen_k, sW_bb hb]
          exact vpe_i hG
        · rw [piL_lo (by omega) (by omega), cen_o (by omega), sW_bb (by omega), sW_bb hb, zup_o (by omega)]
          exact vpe_rf
  · unfold piL at e
    split at e <;> split at e <;> (try split at e) <;> (try split at e) <;> omega
end RB
section RN
variable {p : Program} {l : Launch} {e : Env} {R : Room} {s : State} {m : MethodId} {args : Array Value} {below : List Frame} {meth : Method} {c : Code} {H : Heap} {locs : List Loc} {cells slots : Nat} {Q : State → Prop}
variable {cc : ByteArray} {nL : Nat} {Ts : List Cond} {own : String} {pc : Nat} {ls : Array Slot} {rest : List Value} {D : va_G} {n : Nat} {ad cy sa : Nat → Nat} {A : Nat → Prop} {al be : Nat → Nat → Int32} {ex : Nat → va_E} {N B : Nat}
/-- a new sledge of the law's -/
theorem z_newS {index i2 : Nat} {host : String} {rm : Room} (S : CallFix p m c cc nL s args Ts own) (hE : ZEnv D cy sa A s) (hn : 35 + 2 * N + B ≤ n) (hW : WS D n ad (sW cy ad N B al be ex) A s.heap H locs) (hin : ∀ w ∈ wsX50, w ∈ Ts) (hcl : (Cond.classLink own index RX5).before args s = true) (hinst : (Cond.instantiable RX5 4).before args s = true) (hini : (Cond.initialized RX5).before args s = true) (hrm : rm = ({ frames := 1, cells := 1, slots := 0, locals := 60 } : Room))
    (cw : va_CN R s args own i2 yX5_init host cX5_init 1 none wsX5_init rm 1 0 0 ∧ yX5_init.name = "<init>" ∧ (Cond.instanceMethod yX5_init).before args s = true) (hz : ls.size = nL) (hr : ((.ref 0 :: rest).map fun v => v.category).sum ≤ 8) (hc : cells + 2 ≤ R.cells) (hs : slots + 4 ≤ R.slots) (d0 : decode cc pc = .ok (.new index, 3)) (d3 : decode cc (pc + 3) = .ok (.dup, 1)) (d4 : decode cc (pc + 4) = .ok (.invokespecial i2, 3))
    (kk : ∀ (ad' : Nat → Nat) (H1 : Heap) (locs1 : List Loc), (∀ k, k < n → ad' k = ad k) → WS D (n + 2) ad' (sW cy ad' N B al be (cen (cen ex n (.inr (5, [.int 0, .int 20, .int 0, .ref (ad' (n + 1))]))) (n + 1) (.inl (cy 0, 0, .inl (fun _ => 0))))) A s.heap H1 locs1 → W p l e R s m args below meth c H1 locs1 (cells + 1 + 1) (slots + 4 + 0) Q (F0 m (pc + 7) ls (.ref (ad' n) :: rest))) : W p l e R s m args below meth c H locs cells slots Q (F0 m pc ls rest) := by
  subst hrm
  refine y_new (ci := 5) (fs := [.int 0, .int 0, .int 0, .null]) (C := RX5) (T := TX5) (N := 4) S hE hW hin tyX5 tyX5_ok hcl hinst hini rfl (fun j hj => by rcases (show j = 0 ∨ j = 1 ∨ j = 2 ∨ j = 3 by omega) with rfl | rfl | rfl | rfl <;> rfl) (by omega) hs d0 (fun q H1 hL1 => ?_)
  refine lv_dup S.1 S.2.1 d3 rfl ?_
  refine y_ctorN (rest := .ref q :: rest) (ws := wL n ad (sW cy ad N B al be ex)) (h := q) (e0 := .inr (5, [.int 0, .int 0, .int 0, .null])) S hE hL1 (cX5_init_ok l D cy sa q H1.size) cw hz rfl hr d4 ⟨by omega, by omega⟩ (fun u H2 locs2 _ hL2 => ?_)
  have e1 : wL n ad (sW cy ad N B al be ex) ++ [(q, .inr (5, [.int 0, .int 20, .int 0, .ref u])), (u, .inl (cy 0, 0, .inl (fun _ => 0)))] = wL (n + 2) (fun k => if k = n + 1 then u else if k = n then q else ad k) (cen (cen (sW cy ad N B al be ex) n (.inr (5, [.int 0, .int 20, .int 0, .ref u]))) (n + 1) (.inl (cy 0, 0, .inl (fun _ => 0)))) := by
    have a1 : wL n ad (sW cy ad N B al be ex) ++ [(q, .inr (5, [.int 0, .int 20, .int 0, .ref u]))] = wL (n + 1) (fun k => if k = n then q else ad k) (cen (sW cy ad N B al be ex) n (.inr (5, [.int 0, .int 20, .int 0, .ref u]))) := wL_app (fun k hk => if_neg (by omega)) (fun k hk => cen_o (by omega)) (if_pos rfl) cen_k
    have a2 : wL (n + 1) (fun k => if k = n then q else ad k) (cen (sW cy ad N B al be ex) n (.inr (5, [.int 0, .int 20, .int 0, .ref u]))) ++ [(u, .inl (cy 0, 0, .inl (fun _ => 0)))] = wL (n + 2) (fun k => if k = n + 1 then u else if k = n then q else ad k) (cen (cen (sW cy ad N B al be ex) n (.inr (5, [.int 0, .int 20, .int 0, .ref u]))) (n + 1) (.inl (cy 0, 0, .inl (fun _ => 0)))) := wL_app (fun k hk => if_neg (by omega)) (fun k hk => cen_o (by omega)) (if_pos rfl) cen_k
    rw [← a2, ← a1, List.append_assoc]
    rfl
  obtain ⟨hP, hD, hS⟩ := hL2
  rw [e1] at hP hD
  have hn0 : (fun k => if k = n + 1 then u else if k = n then q else ad k) n = q := by
    show (if n = n + 1 then u else if n = n then q else ad n) = q
    rw [if_neg (by omega), if_pos rfl]
  have hn1 : (fun k => if k = n + 1 then u else if k = n then q else ad k) (n + 1) = u := if_pos rfl
  have hlo : ∀ k, k < n → (fun k => if k = n + 1 then u else if k = n then q else ad k) k = ad k := fun k hk => by
    show (if k = n + 1 then u else if k = n then q else ad k) = ad k
    rw [if_neg (by omega), if_neg (by omega)]
  generalize (fun k => if k = n + 1 then u else if k = n then q else ad k) = ad' at hP hD hn0 hn1 hlo
  subst hn0
  subst hn1
  refine kk ad' H2 locs2 hlo (WS_re (fun k => k) (fun k hk => ⟨hk, rfl, ?_⟩) (fun _ _ _ _ e => e) ⟨hP, hD, hS⟩)
  show vpe (cen (cen (sW cy ad N B al be ex) n _) (n + 1) _ k) _
  by_cases h1 : k = n + 1
  · subst h1
    rw [cen_k, sW_cen_k (by omega)]
    exact vpe_rf
  · rw [cen_o h1]
    by_cases h0 : k = n
    · subst h0
      rw [cen_k, sW_x (by omega), cen_o (by omega), cen_k]
      exact vpe_rf
    · rw [cen_o h0]
      exact sW_vpe (fun j hj => hlo j (by omega)) (fun _ => by rw [cen_o h1, cen_o h0]; exact vpe_rf)
end RN
