/-! The slope that the law keeps by hand: its cells 28.. behind the class's; N sledges, B boats. -/
def vpe (x y : va_E) : Prop := ∀ (D : va_G) (H : Heap) (a : Nat), va_at D vwCl (a, x) H → va_at D vwCl (a, y) H
theorem vpe_rf {x : va_E} : vpe x x := fun _ _ _ h => h
theorem vpe_of {x y : va_E} (h : x = y) : vpe x y := by
  subst h
  exact vpe_rf
theorem vpe_q {c : ClassId} {n : Nat} {f g : Nat → Option Nat} (h : ∀ i, i < n → f i = g i) : vpe (.inl (c, n, .inr (.inr (.inr (.inr f))))) (.inl (c, n, .inr (.inr (.inr (.inr g))))) := by
  intro D H a h1
  show H[a]? = some (vp_cell c (n, .inr (.inr (.inr (.inr g)))))
  rw [← ycell_q h]
  exact h1
theorem ycell_i {cA : ClassId} {n : Nat} {f g : Nat → Int32} (h : ∀ i, i < n → f i = g i) : vp_cell cA (n, .inl f) = vp_cell cA (n, .inl g) := by
  rw [vp_cell_i, vp_cell_i]
  unfold arrV
  have e : (Array.ofFn (n := n) fun j => Value.int (f j.val)) = (Array.ofFn (n := n) fun j => Value.int (g j.val)) := by
    congr 1
    funext j
    rw [h j.val j.isLt]
  first | rw [e] | simp only [e]
theorem vpe_i {c : ClassId} {n : Nat} {f g : Nat → Int32} (h : ∀ i, i < n → f i = g i) : vpe (.inl (c, n, .inl f)) (.inl (c, n, .inl g)) := by
  intro D H a h1
  show H[a]? = some (vp_cell c (n, .inl g))
  rw [← ycell_i h]
  exact h1
theorem WS_re {D : va_G} {n n' : Nat} {ad ad' : Nat → Nat} {ce ce' : Nat → va_E} {A : Nat → Prop} {H0 H : Heap} {locs : List Loc} (pi : Nat → Nat) (h : ∀ k, k < n' → pi k < n ∧ ad' k = ad (pi k) ∧ vpe (ce (pi k)) (ce' k)) (hi : ∀ j k, j < n' → k < n' → pi j = pi k → j = k) (hW : WS D n ad ce A H0 H locs) : WS D n' ad' ce' A H0 H locs := by
  refine ⟨fun k q hq => ?_, ⟨fun i j p q hp hq e => ?_, fun k q hq => ?_⟩, hW.2.2⟩
  · obtain ⟨hk, rfl⟩ := wL_inv hq
    obtain ⟨h1, h2, h3⟩ := h k hk
    show va_at D vwCl (ad' k, ce' k) H
    rw [h2]
    exact h3 D H _ (hW.1 (pi k) (ad (pi k), ce (pi k)) (wL_get h1))
  · obtain ⟨hi2, rfl⟩ := wL_inv hp
    obtain ⟨hj2, rfl⟩ := wL_inv hq
    obtain ⟨a1, a2, -⟩ := h i hi2
    obtain ⟨b1, b2, -⟩ := h j hj2
    have e2 : ad (pi i) = ad (pi j) := by rw [← a2, ← b2]; exact e
    exact hi i j hi2 hj2 (hW.2.1.1 (pi i) (pi j) _ _ (wL_get a1) (wL_get b1) e2)
  · obtain ⟨hk, rfl⟩ := wL_inv hq
    obtain ⟨h1, h2, -⟩ := h k hk
    show A (ad' k)
    rw [h2]
    exact hW.2.1.2 (pi k) (ad (pi k), ce (pi k)) (wL_get h1)
theorem WS_drop {D : va_G} {n n' : Nat} {ad : Nat → Nat} {ce : Nat → va_E} {A : Nat → Prop} {H0 H : Heap} {locs : List Loc} (h : n' ≤ n) (hW : WS D n ad ce A H0 H locs) : WS D n' ad ce A H0 H locs := WS_re (fun k => k) (fun k hk => ⟨by omega, rfl, vpe_rf⟩) (fun _ _ _ _ e => e) hW
def celS (cy ad : Nat → Nat) (N : Nat) (B : Nat) (be : Nat → Nat → Int32) (k : Nat) : va_E :=
  if k = 28 then .inr (4, [.ref (ad 29), .ref (ad 30), .ref (ad 31), .ref (ad 33), .ref (ad 34), .ref (ad 32), .int (be 0 8), .int (be 0 9), .int (be (6 + 0) 1)])
  else if k = 29 then .inl (cy 0, 5, .inl (be 1))
  else if k = 30 then .inl (cy 0, 5, .inl (be 2))
  else if k = 31 then .inl (cy 0, 8, .inl (be 3))
  else if k = 32 then .inl (cy 0, 3, .inl (be (8 + 0)))
  else if k = 33 then .inl (cy 4, N, .inr (.inr (.inr (.inr (fun i => some (ad (35 + 2 * i)))))))
  else if k = 34 then .inl (cy 3, B, .inr (.inr (.inr (.inr (fun b => some (ad (35 + 2 * N + b)))))))
  else if k < 35 + 2 * N then (if (k - 35) % 2 = 0 then .inr (5, [.int (be (10 + (k - 35) / 2) 0), .int (be (10 + (k - 35) / 2) 3), .int (be (10 + (k - 35) / 2) 4), .ref (ad (k + 1))]) else .inl (cy 0, ix (be (10 + (k - 35) / 2) 2), .inl (be (17 + (k - 35) / 2))))
  else .inl (cy 0, 3, .inl (be (24 + (k - (35 + 2 * N)))))
def exS (cy ad : Nat → Nat) (N B : Nat) (be : Nat → Nat → Int32) (ex : Nat → va_E) (k : Nat) : va_E := if k < 35 + 2 * N + B then celS cy ad N B be k else ex k
abbrev sW (cy ad : Nat → Nat) (N B : Nat) (al be : Nat → Nat → Int32) (ex : Nat → va_E) : Nat → va_E := cC cy ad al (exS cy ad N B be ex)
def cen (ce : Nat → va_E) (n : Nat) (e : va_E) : Nat → va_E := fun k => if k = n then e else ce k
theorem cen_k {ce : Nat → va_E} {n : Nat} {e : va_E} : cen ce n e n = e := if_pos rfl
theorem cen_o {ce : Nat → va_E} {n k : Nat} {e : va_E} (h : k ≠ n) : cen ce n e k = ce k := if_neg h
section SW
variable {cy ad ad' : Nat → Nat} {N B : Nat} {al be be' : Nat → Nat → Int32} {ex ex' : Nat → va_E}
theorem sW_in {k : Nat} (h1 : 28 ≤ k) (h2 : k < 35 + 2 * N + B) : sW cy ad N B al be ex k = celS cy ad N B be k := by
  show cC cy ad al _ k = _
  unfold cC exS
  rw [if_neg (by omega), if_pos h2]
theorem sW_x {k : Nat} (h : 35 + 2 * N + B ≤ k) : sW cy ad N B al be ex k = ex k := by
  show cC cy ad al _ k = _
  unfold cC exS
  rw [if_neg (by omega), if_neg (by omega)]
theorem sW_28 : sW cy ad N B al be ex 28 = .inr (4, [.ref (ad 29), .ref (ad 30), .ref (ad 31), .ref (ad 33), .ref (ad 34), .ref (ad 32), .int (be 0 8), .int (be 0 9), .int (be (6 + 0) 1)]) := (sW_in (by omega) (by omega)).trans rfl
theorem sW_29 : sW cy ad N B al be ex 29 = .inl (cy 0, 5, .inl (be 1)) := (sW_in (by omega) (by omega)).trans rfl
theorem sW_30 : sW cy ad N B al be ex 30 = .inl (cy 0, 5, .inl (be 2)) := (sW_in (by omega) (by omega)).trans rfl
theorem sW_31 : sW cy ad N B al be ex 31 = .inl (cy 0, 8, .inl (be 3)) := (sW_in (by omega) (by omega)).trans rfl
theorem sW_32 : sW cy ad N B al be ex 32 = .inl (cy 0, 3, .inl (be (8 + 0))) := (sW_in (by omega) (by omega)).trans rfl
theorem sW_33 : sW cy ad N B al be ex 33 = .inl (cy 4, N, .inr (.inr (.inr (.inr (fun i => some (ad (35 + 2 * i))))))) := (sW_in (by omega) (by omega)).trans rfl
theorem sW_34 : sW cy ad N B al be ex 34 = .inl (cy 3, B, .inr (.inr (.inr (.inr (fun b => some (ad (35 + 2 * N + b))))))) := (sW_in (by omega) (by omega)).trans rfl
theorem sW_so {i : Nat} (h : i < N) : sW cy ad N B al be ex (35 + 2 * i) = .inr (5, [.int (be (10 + i) 0), .int (be (10 + i) 3), .int (be (10 + i) 4), .ref (ad (36 + 2 * i))]) := by
  rw [sW_in (by omega) (by omega)]
  unfold celS
  rw [if_neg (by omega), if_neg (by omega), if_neg (by omega), if_neg (by omega), if_neg (by omega), if_neg (by omega), if_neg (by omega), if_pos (by omega), if_pos (by omega), show (35 + 2 * i - 35) / 2 = i by omega, show 35 + 2 * i + 1 = 36 + 2 * i by omega]
theorem sW_sa {i : Nat} (h : i < N) : sW cy ad N B al be ex (36 + 2 * i) = .inl (cy 0, ix (be (10 + i) 2), .inl (be (17 + i))) := by
  rw [sW_in (by omega) (by omega)]
  unfold celS
  rw [if_neg (by omega), if_neg (by omega), if_neg (by omega), if_neg (by omega), if_neg (by omega), if_neg (by omega), if_neg (by omega), if_pos (by omega), if_neg (by omega), show (36 + 2 * i - 35) / 2 = i by omega]
theorem sW_bb {b : Nat} (h : b < B) : sW cy ad N B al be ex (35 + 2 * N + b) = .inl (cy 0, 3, .inl (be (24 + b))) := by
  rw [sW_in (by omega) (by omega)]
  unfold celS
  rw [if_neg (by omega), if_neg (by omega), if_neg (by omega), if_neg (by omega), if_neg (by omega), if_neg (by omega), if_neg (by omega), if_neg (by omega), show 35 + 2 * N + b - (35 + 2 * N) = b by omega]
/-- where a cell stands -/
theorem sW_where {k : Nat} (h1 : 28 ≤ k) (h2 : k < 35 + 2 * N + B) : k = 28 ∨ k = 29 ∨ k = 30 ∨ k = 31 ∨ k = 32 ∨ k = 33 ∨ k = 34 ∨ (∃ i, i < N ∧ k = 35 + 2 * i) ∨ (∃ i, i < N ∧ k = 36 + 2 * i) ∨ (∃ b, b < B ∧ k = 35 + 2 * N + b) := by
  by_cases h : k < 35
  · omega
  · by_cases h3 : k < 35 + 2 * N
    · rcases Nat.mod_two_eq_zero_or_one (k - 35) with e | e
      · exact Or.inr (Or.inr (Or.inr (Or.inr (Or.inr (Or.inr (Or.inr (Or.inl ⟨(k - 35) / 2, by omega, by omega⟩)))))))
      · exact Or.inr (Or.inr (Or.inr (Or.inr (Or.inr (Or.inr (Or.inr (Or.inr (Or.inl ⟨(k - 35) / 2, by omega, by omega⟩))))))))
    · exact Or.inr (Or.inr (Or.inr (Or.inr (Or.inr (Or.inr (Or.inr (Or.inr (Or.inr ⟨k - (35 + 2 * N), by omega, by omega⟩))))))))
/-- the same numbers, but other addresses, sacks, and more behind -/
theorem cC_vpe {k : Nat} (h : k < 28) {ex ex' : Nat → va_E} (hA : ∀ k, k < 28 → ad' k = ad k) : vpe (cC cy ad al ex k) (cC cy ad' al ex' k) := by
  rw [cC_in h, cC_in h]
  unfold celC
  by_cases h4 : k = 4
  · subst h4
    exact vpe_q (fun i hi => by rw [hA _ (by omega)])
  · by_cases h5 : k = 5
    · subst h5
      exact vpe_q (fun i hi => by rw [hA _ (by omega)])
    · refine vpe_of ?_
      simp only [if_neg h4, if_neg h5]
      by_cases h0 : k = 0
      · simp only [if_pos h0, hA _ (show 1 < 28 by decide), hA _ (show 2 < 28 by decide), hA _ (show 3 < 28 by decide), hA _ (show 4 < 28 by decide), hA _ (show 5 < 28 by decide), hA _ (show 6 < 28 by decide), hA _ (show 16 < 28 by decide), hA _ (show 7 < 28 by decide)]
      · by_cases h1 : k < 8
        · simp only [if_neg h0, if_pos h1]
          by_cases h6 : k < 6
          · by_cases q1 : k = 1
            · simp only [if_pos q1]
            · by_cases q2 : k = 2
              · simp only [if_neg q1, if_pos q2]
              · by_cases q3 : k = 3
                · simp only [if_neg q1, if_neg q2, if_pos q3]
                · omega
          · rw [hA (k + 2) (by omega)]
        · simp only [if_neg h0, if_neg h1]
          by_cases h7 : k < 10
          · simp only [if_pos h7]
          · by_cases h8 : k < 17
            · rw [hA (k + 7) (by omega)]
            · simp only [if_neg h7, if_neg h8]
theorem sW_vpe (hA : ∀ k, k < 35 + 2 * N + B → ad' k = ad k) {k : Nat} (hx : 35 + 2 * N + B ≤ k → vpe (ex k) (ex' k)) : vpe (sW cy ad N B al be ex k) (sW cy ad' N B al be ex' k) := by
  by_cases h : k < 28
  · exact cC_vpe h (fun j hj => hA j (by omega))
  · by_cases h2 : k < 35 + 2 * N + B
    · rcases sW_where (by omega) h2 with rfl | rfl | rfl | rfl | rfl | rfl | rfl | ⟨i, hi, rfl⟩ | ⟨i, hi, rfl⟩ | ⟨b, hb, rfl⟩
      · rw [sW_28, sW_28, hA 29 (by omega), hA 30 (by omega), hA 31 (by omega), hA 32 (by omega), hA 33 (by omega), hA 34 (by omega)]
        exact vpe_rf
      · rw [sW_29, sW_29]; exact vpe_rf
      · rw [sW_30, sW_30]; exact vpe_rf
      · rw [sW_31, sW_31]; exact vpe_rf
      · rw [sW_32, sW_32]; exact vpe_rf
      · rw [sW_33, sW_33]
        exact vpe_q (fun i hi => by rw [hA _ (by omega)])
      · rw [sW_34, sW_34]
        exact vpe_q (fun i hi => by rw [hA _ (by omega)])
      · rw [sW_so hi, sW_so hi, hA (36 + 2 * i) (by omega)]
        exact vpe_rf
      · rw [sW_sa hi, sW_sa hi]; exact vpe_rf
      · rw [sW_bb hb, sW_bb hb]; exact vpe_rf
    · rw [sW_x (by omega), sW_x (by omega)]
      exact hx (by omega)
/-- a cell's numbers decide it -/
theorem sW_congr {j : Nat} (h0 : j = 28 → be 0 8 = be' 0 8 ∧ be 0 9 = be' 0 9 ∧ be (6 + 0) 1 = be' (6 + 0) 1) (h1 : j = 29 → be 1 = be' 1) (h2 : j = 30 → be 2 = be' 2) (h3 : j = 31 → be 3 = be' 3) (h8 : j = 32 → be (8 + 0) = be' (8 + 0)) (hs : ∀ i, i < N → j = 35 + 2 * i → be (10 + i) 0 = be' (10 + i) 0 ∧ be (10 + i) 3 = be' (10 + i) 3 ∧ be (10 + i) 4 = be' (10 + i) 4) (ha : ∀ i, i < N → j = 36 + 2 * i → be (10 + i) 2 = be' (10 + i) 2 ∧ be (17 + i) = be' (17 + i)) (hb : ∀ b, b < B → j = 35 + 2 * N + b → be (24 + b) = be' (24 + b)) : sW cy ad N B al be ex j = sW cy ad N B al be' ex j := by
  by_cases h : j < 28
  · exact (cC_in h).trans (cC_in h).symm
  · by_cases h9 : j < 35 + 2 * N + B
    · rcases sW_where (by omega) h9 with rfl | rfl | rfl | rfl | rfl | rfl | rfl | ⟨i, hi, rfl⟩ | ⟨i, hi, rfl⟩ | ⟨b, hb9, rfl⟩
      · rw [sW_28, sW_28, (h0 rfl).1, (h0 rfl).2.1, (h0 rfl).2.2]
      · rw [sW_29, sW_29, h1 rfl]
      · rw [sW_30, sW_30, h2 rfl]
      · rw [sW_31, sW_31, h3 rfl]
      · rw [sW_32, sW_32, h8 rfl]
      · rw [sW_33, sW_33]
      · rw [sW_34, sW_34]
      · rw [sW_so hi, sW_so hi, (hs i hi rfl).1, (hs i hi rfl).2.1, (hs i hi rfl).2.2]
      · rw [sW_sa hi, sW_sa hi, (ha i hi rfl).1, (ha i hi rfl).2]
      · rw [sW_bb hb9, sW_bb hb9, hb b hb9 rfl]
    · rw [sW_x (by omega), sW_x (by omega)]
theorem oS_0 {f : Nat} {v : Int32} {j : Nat} (h : j ≠ 28) : sW cy ad N B al (zup be 0 f v) ex j = sW cy ad N B al be ex j :=
  sW_congr (fun e => absurd e h) (fun _ => zup_o (by omega)) (fun _ => zup_o (by omega)) (fun _ => zup_o (by omega)) (fun _ => zup_o (by omega)) (fun i _ _ => by rw [zup_o (by omega)]; exact ⟨rfl, rfl, rfl⟩) (fun i _ _ => by rw [zup_o (by omega), zup_o (by omega)]; exact ⟨rfl, rfl⟩) (fun _ _ _ => zup_o (by omega))
theorem oS_6 {f : Nat} {v : Int32} {j : Nat} (h : j ≠ 28) : sW cy ad N B al (zup be (6 + 0) f v) ex j = sW cy ad N B al be ex j :=
  sW_congr (fun e => absurd e h) (fun _ => zup_o (by omega)) (fun _ => zup_o (by omega)) (fun _ => zup_o (by omega)) (fun _ => zup_o (by omega)) (fun i _ _ => by rw [zup_o (by omega)]; exact ⟨rfl, rfl, rfl⟩) (fun i _ _ => by rw [zup_o (by omega), zup_o (by omega)]; exact ⟨rfl, rfl⟩) (fun _ _ _ => zup_o (by omega))
theorem oS_1 {f : Nat} {v : Int32} {j : Nat} (h : j ≠ 29) : sW cy ad N B al (zup be 1 f v) ex j = sW cy ad N B al be ex j :=
  sW_congr (fun _ => by rw [zup_o (by omega), zup_o (by omega)]; exact ⟨rfl, rfl, rfl⟩) (fun e => absurd e h) (fun _ => zup_o (by omega)) (fun _ => zup_o (by omega)) (fun _ => zup_o (by omega)) (fun i _ _ => by rw [zup_o (by omega)]; exact ⟨rfl, rfl, rfl⟩) (fun i _ _ => by rw [zup_o (by omega), zup_o (by omega)]; exact ⟨rfl, rfl⟩) (fun _ _ _ => zup_o (by omega))
theorem oS_2 {f : Nat} {v : Int32} {j : Nat} (h : j ≠ 30) : sW cy ad N B al (zup be 2 f v) ex j = sW cy ad N B al be ex j :=
  sW_congr (fun _ => by rw [zup_o (by omega), zup_o (by omega)]; exact ⟨rfl, rfl, rfl⟩) (fun _ => zup_o (by omega)) (fun e => absurd e h) (fun _ => zup_o (by omega)) (fun _ => zup_o (by omega)) (fun i _ _ => by rw [zup_o (by omega)]; exact ⟨rfl, rfl, rfl⟩) (fun i _ _ => by rw [zup_o (by omega), zup_o (by omega)]; exact ⟨rfl, rfl⟩) (fun _ _ _ => zup_o (by omega))
theorem oS_3 {f : Nat} {v : Int32} {j : Nat} (h : j ≠ 31) : sW cy ad N B al (zup be 3 f v) ex j = sW cy ad N B al be ex j :=
  sW_congr (fun _ => by rw [zup_o (by omega), zup_o (by omega)]; exact ⟨rfl, rfl, rfl⟩) (fun _ => zup_o (by omega)) (fun _ => zup_o (by omega)) (fun e => absurd e h) (fun _ => zup_o (by omega)) (fun i _ _ => by rw [zup_o (by omega)]; exact ⟨rfl, rfl, rfl⟩) (fun i _ _ => by rw [zup_o (by omega), zup_o (by omega)]; exact ⟨rfl, rfl⟩) (fun _ _ _ => zup_o (by omega))
theorem oS_8 {f : Nat} {v : Int32} {j : Nat} (h : j ≠ 32) : sW cy ad N B al (zup be (8 + 0) f v) ex j = sW cy ad N B al be ex j :=
  sW_congr (fun _ => by rw [zup_o (by omega), zup_o (by omega)]; exact ⟨rfl, rfl, rfl⟩) (fun _ => zup_o (by omega)) (fun _ => zup_o (by omega)) (fun _ => zup_o (by omega)) (fun e => absurd e h) (fun i _ _ => by rw [zup_o (by omega)]; exact ⟨rfl, rfl, rfl⟩) (fun i _ _ => by rw [zup_o (by omega), zup_o (by omega)]; exact ⟨rfl, rfl⟩) (fun _ _ _ => zup_o (by omega))
theorem oS_s {i f : Nat} {v : Int32} {j : Nat} (hi7 : i < 7) (hN : N ≤ 6) (hB : B ≤ 4) (hf : f ≠ 2) (h : j ≠ 35 + 2 * i) : sW cy ad N B al (zup be (10 + i) f v) ex j = sW cy ad N B al be ex j := by
  refine sW_congr (fun _ => by rw [zup_o (by omega), zup_o (by omega)]; exact ⟨rfl, rfl, rfl⟩) (fun _ => zup_o (by omega)) (fun _ => zup_o (by omega)) (fun _ => zup_o (by omega)) (fun _ => zup_o (by omega)) (fun q _ e => ?_) (fun q _ _ => ?_) (fun _ _ _ => zup_o (by omega))
  · rw [zup_o (by omega)]; exact ⟨rfl, rfl, rfl⟩
  · rw [zup_o (k := 10 + i) (a := 17 + q) (by omega)]
    by_cases e : q = i
    · subst e
      rw [zup_k]
      exact ⟨up_n (by omega), rfl⟩
    · rw [zup_o (by omega)]
      exact ⟨rfl, rfl⟩
theorem oS_b {i f : Nat} {v : Int32} {j : Nat} (hN : N ≤ 6) (h : j ≠ 35 + 2 * N + i) : sW cy ad N B al (zup be (24 + i) f v) ex j = sW cy ad N B al be ex j := by
  refine sW_congr (fun _ => by rw [zup_o (by omega), zup_o (by omega)]; exact ⟨rfl, rfl, rfl⟩) (fun _ => zup_o (by omega)) (fun _ => zup_o (by omega)) (fun _ => zup_o (by omega)) (fun _ => zup_o (by omega)) (fun q _ e => ?_) (fun q _ _ => ?_) (fun q _ e => zup_o (by omega))
  · rw [zup_o (by omega)]; exact ⟨rfl, rfl, rfl⟩
  · rw [zup_o (by omega), zup_o (by omega)]
    exact ⟨rfl, rfl⟩
theorem pS_0 {f g : Nat} {v : Int32} (hf : (f = 8 ∧ g = 6) ∨ (f = 9 ∧ g = 7)) : sW cy ad N B al (zup be 0 f v) ex 28 = .inr (4, [.ref (ad 29), .ref (ad 30), .ref (ad 31), .ref (ad 33), .ref (ad 34), .ref (ad 32), .int (be 0 8), .int (be 0 9), .int (be (6 + 0) 1)].set g (.int v)) := by
  rw [sW_28, zup_k, zup_o (by omega)]
  rcases hf with ⟨rfl, rfl⟩ | ⟨rfl, rfl⟩ <;> rfl
theorem pS_6 {v : Int32} : sW cy ad N B al (zup be (6 + 0) 1 v) ex 28 = .inr (4, [.ref (ad 29), .ref (ad 30), .ref (ad 31), .ref (ad 33), .ref (ad 34), .ref (ad 32), .int (be 0 8), .int (be 0 9), .int (be (6 + 0) 1)].set 8 (.int v)) := by
  rw [sW_28, zup_k, zup_o (by omega)]
  rfl
theorem pS_1 {j : Nat} {v : Int32} : sW cy ad N B al (zup be 1 j v) ex 29 = .inl (cy 0, 5, .inl (upd (be 1) j v)) := by rw [sW_29, zup_k]
theorem pS_2 {j : Nat} {v : Int32} : sW cy ad N B al (zup be 2 j v) ex 30 = .inl (cy 0, 5, .inl (upd (be 2) j v)) := by rw [sW_30, zup_k]
theorem pS_3 {j : Nat} {v : Int32} : sW cy ad N B al (zup be 3 j v) ex 31 = .inl (cy 0, 8, .inl (upd (be 3) j v)) := by rw [sW_31, zup_k]
theorem pS_8 {j : Nat} {v : Int32} : sW cy ad N B al (zup be (8 + 0) j v) ex 32 = .inl (cy 0, 3, .inl (upd (be (8 + 0)) j v)) := by rw [sW_32, zup_k]
theorem pS_s {i f g : Nat} {v : Int32} (h : i < N) (hf : (f = 0 ∧ g = 0) ∨ (f = 3 ∧ g = 1) ∨ (f = 4 ∧ g = 2)) : sW cy ad N B al (zup be (10 + i) f v) ex (35 + 2 * i) = .inr (5, [.int (be (10 + i) 0), .int (be (10 + i) 3), .int (be (10 + i) 4), .ref (ad (36 + 2 * i))].set g (.int v)) := by
  rw [sW_so h, zup_k]
  rcases hf with ⟨rfl, rfl⟩ | ⟨rfl, rfl⟩ | ⟨rfl, rfl⟩ <;> rfl
theorem pS_b {i j : Nat} {v : Int32} (h : i < B) : sW cy ad N B al (zup be (24 + i) j v) ex (35 + 2 * N + i) = .inl (cy 0, 3, .inl (upd (be (24 + i)) j v)) := by rw [sW_bb h, zup_k]
/-- what lies behind -/
theorem sW_cen_k {n : Nat} {e : va_E} (h : 35 + 2 * N + B ≤ n) : sW cy ad N B al be (cen ex n e) n = e := (sW_x h).trans cen_k
theorem sW_cen_o {n j : Nat} {e e' : va_E} (hj : j ≠ n) : sW cy ad N B al be (cen ex n e) j = sW cy ad N B al be (cen ex n e') j := by
  show cC cy ad al _ j = cC cy ad al _ j
  unfold cC exS
  rw [cen_o hj, cen_o hj]
theorem sW_cen_n {n j : Nat} {e : va_E} (hj : j ≠ n) : sW cy ad N B al be (cen ex n e) j = sW cy ad N B al be ex j := by
  show cC cy ad al _ j = cC cy ad al _ j
  unfold cC exS
  rw [cen_o hj]
theorem sW_ext {j : Nat} (h : ex j = ex' j) : sW cy ad N B al be ex j = sW cy ad N B al be ex' j := by
  show cC cy ad al _ j = cC cy ad al _ j
  unfold cC exS
  rw [h]
theorem cen_cg {ce ce' : Nat → va_E} {n j : Nat} {e : va_E} (h : ce j = ce' j) : cen ce n e j = cen ce' n e j := by
  unfold cen
  rw [h]
theorem cen_oo {ce : Nat → va_E} {n j : Nat} {e e' : va_E} (h : j ≠ n) : cen ce n e j = cen ce n e' j := (cen_o h).trans (cen_o h).symm
theorem sW_sal {i a : Nat} (h : i < N) (ha : be (10 + i) 2 = nI a) (h8 : a < 2 ^ 31) : sW cy ad N B al be ex (36 + 2 * i) = .inl (cy 0, a, .inl (be (17 + i))) := by rw [sW_sa h, ha, ix_nI h8]
theorem sW_cen2 {n : Nat} {e e' : va_E} : cen (cen ex n e) n e' = cen ex n e' := by
  funext k
  by_cases h : k = n
  · subst h; rw [cen_k, cen_k]
  · rw [cen_o h, cen_o h, cen_o h]
end SW
theorem sW_push {D : va_G} {cy ad ad' : Nat → Nat} {n N B : Nat} {al be : Nat → Nat → Int32} {ex : Nat → va_E} {e : va_E} {A : Nat → Prop} {H0 H : Heap} {locs : List Loc} (hn : 35 + 2 * N + B ≤ n) (hA : ∀ k, k < n → ad' k = ad k) (hW : WS D (n + 1) ad' (cen (sW cy ad N B al be ex) n e) A H0 H locs) : WS D (n + 1) ad' (sW cy ad' N B al be (cen ex n e)) A H0 H locs := by
  refine WS_re (fun k => k) (fun k hk => ⟨hk, rfl, ?_⟩) (fun _ _ _ _ e => e) hW
  show vpe (cen (sW cy ad N B al be ex) n e k) _
  by_cases h : k = n
  · subst h
    rw [cen_k, sW_cen_k hn]
    exact vpe_rf
  · rw [cen_o h]
    exact sW_vpe (fun j hj => hA j (by omega)) (fun _ => by rw [cen_o h]; exact vpe_rf)
theorem WS_app {D : va_G} {ad : Nat → Nat} {n q : Nat} {ce : Nat → va_E} {e : va_E} {A : Nat → Prop} {H0 H : Heap} {locs : List Loc} (hP : va_P D vwCl (wL n ad ce ++ [(q, e)]) H) (hD : va_D A (wL n ad ce ++ [(q, e)])) (hS : va_S A H0 H locs) : ∃ ad' : Nat → Nat, (∀ k, k < n → ad' k = ad k) ∧ ad' n = q ∧ WS D (n + 1) ad' (cen ce n e) A H0 H locs := by
  have e1 : wL n ad ce ++ [(q, e)] = wL (n + 1) (fun k => if k = n then q else ad k) (cen ce n e) := wL_app (fun k hk => if_neg (by omega)) (fun k hk => cen_o (by omega)) (if_pos rfl) cen_k
  rw [e1] at hP hD
  exact ⟨fun k => if k = n then q else ad k, fun k hk => if_neg (by omega), if_pos rfl, hP, hD, hS⟩
section SR
variable {p : Program} {l : Launch} {e : Env} {R : Room} {s : State} {m : MethodId} {args : Array Value} {below : List Frame} {meth : Method} {c : Code} {H : Heap} {locs : List Loc} {cells slots : Nat} {Q : State → Prop}
variable {cc : ByteArray} {nL : Nat} {Ts : List Cond} {own : String} {pc : Nat} {ls : Array Slot} {rest st0 : List Value} {D : va_G} {n : Nat} {ad cy sa : Nat → Nat} {ce ce' : Nat → va_E} {A : Nat → Prop}
variable {al be : Nat → Nat → Int32} {ex : Nat → va_E} {N B : Nat}
theorem z_st {st1 : List Value} (h : st0 = st1) (k : W p l e R s m args below meth c H locs cells slots Q (F0 m pc ls st1)) : W p l e R s m args below meth c H locs cells slots Q (F0 m pc ls st0) := h ▸ k
/-- new rows behind the world -/
theorem z_newI {M : Nat} (S : CallFix p m c cc nL s args Ts own) (hE : ZEnv D cy sa A s) (hn : 35 + 2 * N + B ≤ n) (hW : WS D n ad (sW cy ad N B al be ex) A s.heap H locs) (harr : (Cond.arrayClass .int).before args s = true) {x : Int32} (hx : x = nI M) (hM : M < 2 ^ 20) (hcells : cells + 1 ≤ R.cells) (hslots : slots + M ≤ R.slots) (hdg : decode cc pc = .ok (.newarray .int, 2))
    (kk : ∀ (ad' : Nat → Nat) (H1 : Heap), (∀ k, k < n → ad' k = ad k) → WS D (n + 1) ad' (sW cy ad' N B al be (cen ex n (.inl (cy 0, M, .inl (fun _ => 0))))) A s.heap H1 locs → W p l e R s m args below meth c H1 locs (cells + 1) (slots + M) Q (F0 m (pc + 2) ls (.ref (ad' n) :: rest))) : W p l e R s m args below meth c H locs cells slots Q (F0 m pc ls (.int x :: rest)) :=
  y_newI S hE hW harr hx hM hcells hslots hdg (fun q H1 hL => by
    obtain ⟨ad', h1, rfl, h2⟩ := WS_app hL.1 hL.2.1 hL.2.2
    exact kk ad' H1 h1 (sW_push hn h1 h2))
theorem z_newQ {M index : Nat} (S : CallFix p m c cc nL s args Ts own) (hE : ZEnv D cy sa A s) (hn : 35 + 2 * N + B ≤ n) (hW : WS D n ad (sW cy ad N B al be ex) A s.heap H locs) (hclink : (Cond.classLink own index RX5).before args s = true) (hover : va_AO RX5 s) {x : Int32} (hx : x = nI M) (hM : M < 2 ^ 20) (hcells : cells + 1 ≤ R.cells) (hslots : slots + M ≤ R.slots) (hdg : decode cc pc = .ok (.anewarray index, 3))
    (kk : ∀ (ad' : Nat → Nat) (H1 : Heap), (∀ k, k < n → ad' k = ad k) → WS D (n + 1) ad' (sW cy ad' N B al be (cen ex n (.inl (cy 4, M, .inr (.inr (.inr (.inr (fun _ => none)))))))) A s.heap H1 locs → W p l e R s m args below meth c H1 locs (cells + 1) (slots + M) Q (F0 m (pc + 3) ls (.ref (ad' n) :: rest))) : W p l e R s m args below meth c H locs cells slots Q (F0 m pc ls (.int x :: rest)) :=
  y_newQ 4 (by decide) S hE hW hclink hover rfl hx hM hcells hslots hdg (fun q H1 hL => by
    obtain ⟨ad', h1, rfl, h2⟩ := WS_app hL.1 hL.2.1 hL.2.2
    exact kk ad' H1 h1 (sW_push hn h1 h2))
theorem z_newAS {M index : Nat} (S : CallFix p m c cc nL s args Ts own) (hE : ZEnv D cy sa A s) (hn : 35 + 2 * N + B ≤ n) (hW : WS D n ad (sW cy ad N B al be ex) A s.heap H locs) (hclink : (Cond.classLink own index "[I").before args s = true) {x : Int32} (hx : x = nI M) (hM : M < 2 ^ 20) (hcells : cells + 1 ≤ R.cells) (hslots : slots + M ≤ R.slots) (hdg : decode cc pc = .ok (.anewarray index, 3))
    (kk : ∀ (ad' : Nat → Nat) (H1 : Heap), (∀ k, k < n → ad' k = ad k) → WS D (n + 1) ad' (sW cy ad' N B al be (cen ex n (.inl (cy 3, M, .inr (.inr (.inr (.inr (fun _ => none)))))))) A s.heap H1 locs → W p l e R s m args below meth c H1 locs (cells + 1) (slots + M) Q (F0 m (pc + 3) ls (.ref (ad' n) :: rest))) : W p l e R s m args below meth c H locs cells slots Q (F0 m pc ls (.int x :: rest)) :=
  z_newA S hE hW hclink hx hM hcells hslots hdg (fun q H1 _ _ hP hD hS => by
    obtain ⟨ad', h1, rfl, h2⟩ := WS_app hP hD hS
    exact kk ad' H1 h1 (sW_push hn h1 h2))
/-- a reference into a field -/
theorem z_putR {ref C : String} {T : u_T} {M ci index : Nat} (S : CallFix p m c cc nL s args Ts own) (hE : ZEnv D cy sa A s) (hW : WS D n ad ce A s.heap H locs) (hin : ∀ w ∈ u_ws C T M, w ∈ Ts) (ty0 : Nat → FieldType) (hty : ∀ k, k < M → parseFieldDescriptor (T k).2.2.1 = some (ty0 k)) (hnm : ∀ a, a < M → ∀ b, b < M → a ≠ b → (T a).2.1 ≠ (T b).2.1) (hc : vwCl[ci]? = some (C, T, M)) {k : Nat} (hk : k < n) {fs : List Value} (he : ce k = .inr (ci, fs)) (f : Nat) (hf : f < M) (href : (T f).1 = ref) (hlink : (Cond.fieldLink own index ref (T f).2.1 (T f).2.2.1).before args s = true) (hfin : (T f).2.2.2 = false) {v : Nat} (hna : narrow (ty0 f) (.ref v) = .ref v) (hfi : fits (ty0 f) (.ref v) = true) (hl : f < fs.length) (h1 : ce' k = .inr (ci, fs.set f (.ref v))) (h2 : ∀ j, j ≠ k → ce' j = ce j) (hdg : decode cc pc = .ok (.putfield index, 3))
    (kk : ∀ (H1 : Heap) (locs1 : List Loc), WS D n ad ce' A s.heap H1 locs1 → W p l e R s m args below meth c H1 locs1 cells slots Q (F0 m (pc + 3) ls rest)) : W p l e R s m args below meth c H locs cells slots Q (F0 m pc ls (.ref v :: .ref (ad k) :: rest)) := by
  obtain ⟨hx, hb, hml, hown, hts⟩ := S
  refine va_put (D := D) (ci := ci) (C := C) (T := T) (N := M) (ty := ty0 f) hx hb hts hin ty0 hty hnm hown hE.1.1 hW.1 hW.2.1 hW.2.2 k (by rw [wL_get hk, he]) hc f hf hlink (fun x h => by rw [← href]; exact h) hfin (hty f hf) hna hfi hl hdg (fun H1 locs1 hP hD hS => ?_)
  rw [wL_set h1 h2] at hP hD
  exact kk H1 locs1 ⟨hP, hD, hS⟩
theorem z_alenG {t0 k : Nat} {cA : ClassId} {x : vp_A} {ty : FieldType} (S : CallFix p m c cc nL s args Ts own) (hE : ZEnv D cy sa A s) (hW : WS D n ad ce A s.heap H locs) (hk : k < n) (he : ce k = .inl (cA, x)) (ht : (tyA cy)[t0]? = some (cA, ty)) {v : Int32} (hv : Int32.ofNat x.1 = v) (hdg : decode cc pc = .ok (.arraylength, 1))
    (kk : W p l e R s m args below meth c H locs cells slots Q (F0 m (pc + 1) ls (.int v :: rest))) : W p l e R s m args below meth c H locs cells slots Q (F0 m pc ls (.ref (ad k) :: rest)) := by
  obtain ⟨hx, hb, hml, hown, hts⟩ := S
  exact va_alen (D := D) hx hb hE.1.1 hW.1 k t0 (by rw [wL_get hk, he]) ht hv hdg kk
/-- a reference of a sledge of the law's into a row of them -/
theorem z_astq5 {k kv M : Nat} {f : Nat → Option Nat} {vs : List Value} (S : CallFix p m c cc nL s args Ts own) (hE : ZEnv D cy sa A s) (hW : WS D n ad ce A s.heap H locs) (hk : k < n) (hkv : kv < n) (he : ce k = .inl (cy 4, M, .inr (.inr (.inr (.inr f))))) (hev : ce kv = .inr (5, vs)) {i : Int32} (j : Nat) (hi : i = nI j) (hj : j < M) (hM : M < 2 ^ 31)
    (h1 : ce' k = .inl (cy 4, M, .inr (.inr (.inr (.inr (va_up f j (some (ad kv)))))))) (h2 : ∀ j, j ≠ k → ce' j = ce j) (hdg : decode cc pc = .ok (.aastore, 1))
    (kk : ∀ (H1 : Heap) (locs1 : List Loc), WS D n ad ce' A s.heap H1 locs1 → W p l e R s m args below meth c H1 locs1 cells slots Q (F0 m (pc + 1) ls rest)) : W p l e R s m args below meth c H locs cells slots Q (F0 m pc ls (.ref (ad kv) :: .int i :: .ref (ad k) :: rest)) := by
  obtain ⟨hx, hb, hml, hown, hts⟩ := S
  subst hi
  refine va_astq (D := D) (r := (RX5, TX5, 4)) hx hb hE.1.1 hW.1 hW.2.1 hW.2.2 k 4 kv 5 (by rw [wL_get hk, he]) rfl (by rw [wL_get hkv, hev]) rfl (z_inj hj hM).1 hdg (fun H1 locs1 hP hD hS => ?_)
  rw [(z_inj hj hM).2, wL_set h1 h2] at hP hD
  exact kk H1 locs1 ⟨hP, hD, hS⟩
end SR
