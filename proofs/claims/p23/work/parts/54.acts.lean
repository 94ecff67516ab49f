/-! What stays true on the law's road, and what its choices ask. -/
def BT (al : Nat → Nat → Int32) (B b : Nat) : Prop := ∃ L f t : Nat, al (24 + b) 0 = nI L ∧ al (24 + b) 1 = nI (10 * f) ∧ al (24 + b) 2 = nI (10 * t) ∧ (b < B → 10 * f + 10 * t ≤ L ∧ L ≤ 900) ∧ (B ≤ b → f = 0 ∧ t = 0)
def UpI (al : Nat → Nat → Int32) : Prop := ∀ i, i < 6 → al (10 + i) 4 = 2 → al (10 + i) 2 = 0
def InvT (al : Nat → Nat → Int32) (N B h : Nat) : Prop := Inv al N B h ∧ (∀ b, b < 4 → BT al B b) ∧ UpI al
theorem UpI.keep {al be : Nat → Nat → Int32} (h : UpI al) (e4 : ∀ i, i < 6 → be (10 + i) 4 = al (10 + i) 4) (e2 : ∀ i, i < 6 → be (10 + i) 2 = al (10 + i) 2) : UpI be := fun i hi h4 => by rw [e2 i hi]; exact h i hi ((e4 i hi).symm.trans h4)
theorem BT.congr {al be : Nat → Nat → Int32} {B b : Nat} (h : BT al B b) (e : be (24 + b) = al (24 + b)) : BT be B b := by
  obtain ⟨L, f, t, h1, h2, h3, h4, h5⟩ := h
  exact ⟨L, f, t, by rw [e]; exact h1, by rw [e]; exact h2, by rw [e]; exact h3, h4, h5⟩
theorem BT.bi {al : Nat → Nat → Int32} {B b : Nat} (h : BT al B b) : BI al B b := by
  obtain ⟨L, f, t, h1, h2, h3, h4, h5⟩ := h
  exact ⟨L, 10 * f, 10 * t, h1, h2, h3, h4, fun z => ⟨by rw [(h5 z).1], by rw [(h5 z).2]⟩⟩
section IT
variable {al : Nat → Nat → Int32} {N B h : Nat}
theorem InvT.set (I : InvT al N B h) {j : Nat} {y z : Int32} : InvT (zup (zup al 1 j y) 2 j z) N B h := ⟨I.1.set, fun b hb => (I.2.1 b hb).congr (by rw [zup_o (by omega), zup_o (by omega)]), I.2.2.keep (fun i hi => by rw [zup_o (by omega), zup_o (by omega)]) (fun i hi => by rw [zup_o (by omega), zup_o (by omega)])⟩
theorem InvT.setGust (I : InvT al N B h) {j g : Nat} (hg : g ≤ 9) : InvT (zup al 3 j (nI g)) N B h := ⟨I.1.setGust hg, fun b hb => (I.2.1 b hb).congr (zup_o (by omega)), I.2.2.keep (fun i hi => by rw [zup_o (by omega)]) (fun i hi => by rw [zup_o (by omega)])⟩
theorem InvT.build (I : InvT al N B h) {o : Nat} (hN : N < 6) (ho : o ≤ 8) : InvT (zup (zup al (10 + N) 0 (nI o)) 0 4 (nI (N + 1))) (N + 1) B h := by
  have e : ∀ i f, i < 6 → f ≠ 0 → (zup (zup al (10 + N) 0 (nI o)) 0 4 (nI (N + 1))) (10 + i) f = al (10 + i) f := fun i f hi hf => by
    rw [zup_o (by omega)]
    by_cases e : i = N
    · subst e; rw [zup_k, up_n hf]
    · rw [zup_o (by omega)]
  exact ⟨I.1.build hN ho, fun b hb => (I.2.1 b hb).congr (by rw [zup_o (by omega), zup_o (by omega)]), I.2.2.keep (fun i hi => e i 4 hi (by decide)) (fun i hi => e i 2 hi (by decide))⟩
theorem InvT.launch (I : InvT al N B h) {L : Nat} (hB : B < 4) (hL : L ≤ 900) : InvT (zup (zup al (24 + B) 0 (nI L)) 0 6 (nI (B + 1))) N (B + 1) h := by
  refine ⟨I.1.launch hB hL, fun b hb => ?_, I.2.2.keep (fun i hi => by rw [zup_o (by omega), zup_o (by omega)]) (fun i hi => by rw [zup_o (by omega), zup_o (by omega)])⟩
  obtain ⟨L0, f, t, h1, h2, h3, h4, h5⟩ := I.2.1 b hb
  by_cases e : b = B
  · subst e
    obtain ⟨rfl, rfl⟩ := h5 (Nat.le_refl _)
    refine ⟨L, 0, 0, ?_, ?_, ?_, fun _ => ⟨by omega, hL⟩, fun z => ⟨rfl, rfl⟩⟩
    · rw [zup_o (by omega), zup_k, up_s]
    · rw [zup_o (by omega), zup_k, up_n (by decide)]; exact h2
    · rw [zup_o (by omega), zup_k, up_n (by decide)]; exact h3
  · have e9 : (zup (zup al (24 + B) 0 (nI L)) 0 6 (nI (B + 1))) (24 + b) = al (24 + b) := by rw [zup_o (by omega), zup_o (by omega)]
    refine ⟨L0, f, t, by rw [e9]; exact h1, by rw [e9]; exact h2, by rw [e9]; exact h3, fun z => h4 (by omega), fun z => h5 (by omega)⟩
theorem InvT.fill (I : InvT al N B h) {i j a o : Nat} {v w : Int32} (hi : i < N) (ha : al (10 + i) 2 = nI a) (ho : al (10 + i) 0 = nI o) (hao : a < o) (ho8 : o ≤ 8) (hw : al (10 + i) 4 = 0) : InvT (zup (zup (zup al 1 j v) (17 + i) a w) (10 + i) 2 (nI (a + 1))) N B h := by
  have hN6 := I.1.1.2.1
  refine ⟨I.1.fill hi ha ho hao ho8, fun b hb => (I.2.1 b hb).congr (by rw [zup_o (by omega), zup_o (by omega), zup_o (by omega)]), fun q hq h4 => ?_⟩
  by_cases e : q = i
  · subst e
    rw [zup_k, up_n (by decide), zup_o (by omega), zup_o (by omega), hw] at h4
    exact absurd h4 (by decide)
  · rw [zup_o (by omega), zup_o (by omega), zup_o (by omega)] at h4 ⊢
    exact I.2.2 q hq h4
theorem InvT.go (I : InvT al N B h) {i : Nat} (hi : i < N) : InvT (zup al (10 + i) 4 1) N B h := by
  have hN6 := I.1.1.2.1
  refine ⟨I.1.go hi, fun b hb => (I.2.1 b hb).congr (zup_o (by omega)), fun q hq h4 => ?_⟩
  by_cases e : q = i
  · subst e
    rw [zup_k, up_s] at h4
    exact absurd h4 (by decide)
  · rw [zup_o (by omega)] at h4 ⊢
    exact I.2.2 q hq h4
theorem InvT.boat (I : InvT al N B h) {be : Nat → Nat → Int32} {i : Nat} (hi : i < B) (h0 : ∀ f, f ≠ 9 → be 0 f = al 0 f) (hs : ∀ q, q < 7 → be (10 + q) = al (10 + q)) (hb : ∀ b, b < 4 → b ≠ i → be (24 + b) = al (24 + b)) (hi2 : BT be B i) (hg : be 3 = al 3) (hk : KI be h) : InvT be N B h := by
  refine ⟨I.1.boat hi h0 hs hb hi2.bi hg hk, fun b q => ?_, I.2.2.keep (fun i hi => by rw [hs i (by omega)]) (fun i hi => by rw [hs i (by omega)])⟩
  by_cases e : b = i
  · subst e; exact hi2
  · exact (I.2.1 b q).congr (hb b q e)
theorem InvT.sail (I : InvT al N B h) {i : Nat} {v : Int32} (hi : i < B) : InvT (zup (zup (zup al (24 + i) 1 0) (24 + i) 2 0) 0 9 v) N B h := by
  have hB4 := I.1.1.2.2.2.1
  have e : ∀ k, k ≠ 0 → k ≠ 24 + i → (zup (zup (zup al (24 + i) 1 0) (24 + i) 2 0) 0 9 v) k = al k := fun k h1 h2 => by rw [zup_o h1, zup_o h2, zup_o h2]
  obtain ⟨L, f, t, h1, h2, h3, h4, h5⟩ := I.2.1 i (by omega)
  refine I.boat hi (fun f hf => ?_) (fun q hq => e _ (by omega) (by omega)) (fun b hb hbi => e _ (by omega) (by omega)) ⟨L, 0, 0, ?_, ?_, ?_, fun z => ⟨by omega, (h4 z).2⟩, fun z => ⟨rfl, rfl⟩⟩ (e 3 (by decide) (by omega)) (fun k hk => ?_)
  · rw [zup_k, up_n hf, zup_o (by omega), zup_o (by omega)]
  · rw [zup_o (by omega), zup_k, up_n (by decide), zup_k, up_n (by decide)]; exact h1
  · rw [zup_o (by omega), zup_k, up_n (by decide), zup_k, up_s]; rfl
  · rw [zup_o (by omega), zup_k, up_s]; rfl
  · rw [e _ (by decide) (by omega)]; exact I.1.2.2.2.2.2 k hk
theorem stL_10 : ∀ k, k < 3 → ∃ w, stL (nI k) = nI (10 * w) ∧ w ≤ 8 ∧ stw (nI k) = nI (10 * w) := by
  intro k hk
  rcases (show k = 0 ∨ k = 1 ∨ k = 2 by omega) with rfl | rfl | rfl
  · exact ⟨8, by decide, by omega, by decide⟩
  · exact ⟨5, by decide, by omega, by decide⟩
  · exact ⟨2, by decide, by omega, by decide⟩
theorem stL_stw {k : Nat} (hk : k < 3) : stL (nI k) = stw (nI k) := by
  obtain ⟨w, e1, -, e2⟩ := stL_10 k hk
  rw [e1, e2]
theorem InvT.stow (I : InvT al N B h) {i k g : Nat} (hi : i < B) (hk : k < 3) (h0 : ¬ al (8 + 0) k = 0) (hg : g = 1 ∨ g = 2) (hfit : al (24 + i) 1 + al (24 + i) 2 + stL (nI k) ≤ al (24 + i) 0) : InvT (zup (zup al (8 + 0) k (al (8 + 0) k - 1)) (24 + i) g (al (24 + i) g + stL (nI k))) N B h := by
  have hB4 := I.1.1.2.2.2.1
  obtain ⟨L, f, t, h1, h2, h3, h4, h5⟩ := I.2.1 i (by omega)
  obtain ⟨w, e1, hw8, -⟩ := stL_10 k hk
  have h9 := (h4 hi).2
  have h10 := (h4 hi).1
  rw [h1, h2, h3, e1, nI_add, nI_add, nI_leI (by omega) (by omega)] at hfit
  have e : ∀ q, q ≠ 8 → q ≠ 24 + i → (zup (zup al (8 + 0) k (al (8 + 0) k - 1)) (24 + i) g (al (24 + i) g + stL (nI k))) q = al q := fun q q1 q2 => by rw [zup_o q2, zup_o q1]
  have hK : KI (zup (zup al (8 + 0) k (al (8 + 0) k - 1)) (24 + i) g (al (24 + i) g + stL (nI k))) h := by
    intro q hq
    obtain ⟨c, hc, hc2⟩ := I.1.2.2.2.2.2 q hq
    rw [zup_o (by omega), zup_k]
    by_cases e9 : q = k
    · subst e9
      rw [up_s, hc]
      have hc0 : 0 < c := by
        rcases Nat.eq_zero_or_pos c with q0 | q0
        · rw [hc, q0] at h0
          exact absurd nI_0 h0
        · exact q0
      exact ⟨c - 1, by rw [show c = (c - 1) + 1 by omega, nI_pred]; rfl, by omega⟩
    · rw [up_n e9]
      exact ⟨c, hc, hc2⟩
  refine I.boat hi (fun f hf => by rw [e 0 (by decide) (by omega)]) (fun q hq => e _ (by omega) (by omega)) (fun b hb hbi => e _ (by omega) (by omega)) ?_ (e 3 (by decide) (by omega)) hK
  rcases hg with rfl | rfl
  · refine ⟨L, f + w, t, ?_, ?_, ?_, fun z => ⟨by omega, h9⟩, fun z => by omega⟩
    · rw [zup_k, up_n (by decide), zup_o (by omega)]; exact h1
    · rw [zup_k, up_s, h2, e1, nI_add]; congr 1; omega
    · rw [zup_k, up_n (by decide), zup_o (by omega)]; exact h3
  · refine ⟨L, f, t + w, ?_, ?_, ?_, fun z => ⟨by omega, h9⟩, fun z => by omega⟩
    · rw [zup_k, up_n (by decide), zup_o (by omega)]; exact h1
    · rw [zup_k, up_n (by decide), zup_o (by omega)]; exact h2
    · rw [zup_k, up_s, h3, e1, nI_add]; congr 1; omega
theorem InvT.hour (I : InvT al N B h) (hh3 : h < 2 ^ 29) : InvT (hourS al) N B (h + 1) := by
  refine ⟨I.1.hour (by omega), fun b hb => (I.2.1 b hb).congr (hourS_o I.1.1.1 I.1.1.2.1 (by omega) (by omega) (by omega) (Or.inr (by omega))), fun i hi h4 => ?_⟩
  have hr := hourS_row (al := al) (i := i) I.1.1.1 I.1.1.2.1 (by omega)
  have e4 : hourS al (10 + i) 4 = (rowS (hourS al) i).2.2 := rfl
  have e2 : hourS al (10 + i) 2 = (rowS (hourS al) i).1 := rfl
  rw [e4] at h4
  rw [e2]
  have hu : (rowS al i).2.2 = 2 → (rowS al i).1 = 0 := I.2.2 i hi
  rw [hr] at h4 ⊢
  by_cases hN : i < N
  · rw [if_pos hN] at h4 ⊢
    revert h4
    unfold trv
    split
    · split
      · intro _; rfl
      · intro h4; rename_i c1 _; exact absurd (c1.symm.trans h4) (by decide)
    · split
      · rename_i c2
        intro _
        exact hu c2
      · rename_i c2
        intro h4
        exact absurd h4 c2
  · rw [if_neg hN] at h4 ⊢
    exact hu h4
end IT
/-- depths and trims, of small numbers -/
theorem i32_lt {x y : Int32} : x < y ↔ x.toInt < y.toInt := Int32.lt_iff_toInt_lt
theorem i32_le {x y : Int32} : x ≤ y ↔ x.toInt ≤ y.toInt := Int32.le_iff_toInt_le
theorem dep_same {F A : Nat} (hF : F < 2 ^ 30) (hA : A < 2 ^ 30) : depL (nI F) (nI A) = dep (nI F) (nI A) := by
  unfold depL dep zab
  have e1 := pk_sub_toInt hF hA
  by_cases h : F ≤ A
  · rw [if_pos (nI_le h (by omega))]
    by_cases h2 : F = A
    · subst h2
      rw [Int32.sub_self, if_pos (Int32.le_refl 0)]
    · rw [if_neg (by rw [i32_le, e1, Int32.toInt_zero]; omega)]
      congr 2
      rw [Int32.zero_sub, Int32.neg_sub]
  · rw [if_neg (nI_ge (by omega) (by omega)), if_pos (by rw [i32_le, e1, Int32.toInt_zero]; omega)]
theorem sail_same {F A : Nat} (hF : F < 2 ^ 30) (hA : A < 2 ^ 30) : (depL (nI F) (nI A) < 21 ∧ nI F - nI A < 101 ∧ nI A - nI F < 101) ↔ (¬ 20 < dep (nI F) (nI A) ∧ zIn (nI F - nI A) (-100) 100) := by
  rw [dep_same hF hA]
  unfold zIn
  have e1 := pk_sub_toInt hF hA
  have e2 := pk_sub_toInt hA hF
  have a1 : ((21 : Int32)).toInt = 21 := by decide
  have a2 : ((20 : Int32)).toInt = 20 := by decide
  have a3 : ((101 : Int32)).toInt = 101 := by decide
  have a4 : ((-100 : Int32)).toInt = -100 := by decide
  have a5 : ((100 : Int32)).toInt = 100 := by decide
  rw [i32_lt, i32_lt, i32_lt, i32_lt, i32_lt, i32_lt, e1, e2, a1, a2, a3, a4, a5]
  omega
