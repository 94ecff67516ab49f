/-! What stays true of the numbers, call by call. -/
def RI (al : Nat → Nat → Int32) (N i : Nat) : Prop := ∃ o a t c : Nat, al (10 + i) 0 = nI o ∧ rowK (rowS al i) a t c ∧ a ≤ 8 ∧ t ≤ 20 ∧ c ≤ 2 ∧ (i < N → a ≤ o ∧ o ≤ 8) ∧ (N ≤ i → a = 0 ∧ t = 20 ∧ c = 0)
def BI (al : Nat → Nat → Int32) (B b : Nat) : Prop := ∃ L f t : Nat, al (24 + b) 0 = nI L ∧ al (24 + b) 1 = nI f ∧ al (24 + b) 2 = nI t ∧ (b < B → f + t ≤ L ∧ L ≤ 900) ∧ (B ≤ b → f = 0 ∧ t = 0)
def TI (al : Nat → Nat → Int32) : Prop := ∃ a : Nat, al (10 + 6) 2 = nI a ∧ a ≤ 8
def GI (al : Nat → Nat → Int32) : Prop := ∀ j, j < 8 → ∃ g, al 3 j = nI g ∧ g ≤ 9
def KI (al : Nat → Nat → Int32) (h : Nat) : Prop := ∀ k, k < 3 → ∃ c, al (8 + 0) k = nI c ∧ c ≤ 48 * h
def Inv (al : Nat → Nat → Int32) (N B h : Nat) : Prop := (al 0 4 = nI N ∧ N ≤ 6 ∧ al 0 6 = nI B ∧ B ≤ 4 ∧ al 0 8 = nI h) ∧ (∀ i, i < 6 → RI al N i) ∧ TI al ∧ (∀ b, b < 4 → BI al B b) ∧ GI al ∧ KI al h
theorem RI.congr {al be : Nat → Nat → Int32} {N i : Nat} (h : RI al N i) (e : be (10 + i) = al (10 + i)) : RI be N i := by
  obtain ⟨o, a, t, c, h1, h2, h3⟩ := h
  refine ⟨o, a, t, c, by rw [e]; exact h1, ?_, h3⟩
  unfold rowK rowS at h2 ⊢
  rw [e]
  exact h2
theorem BI.congr {al be : Nat → Nat → Int32} {B b : Nat} (h : BI al B b) (e : be (24 + b) = al (24 + b)) : BI be B b := by
  unfold BI at h ⊢
  rw [e]
  exact h
theorem Inv.keep {al be : Nat → Nat → Int32} {N B h : Nat} (I : Inv al N B h) (h4 : be 0 4 = al 0 4) (h6 : be 0 6 = al 0 6) (h8 : be 0 8 = al 0 8) (hs : ∀ i, i < 6 → be (10 + i) = al (10 + i)) (ht : TI be) (hb : ∀ b, b < 4 → be (24 + b) = al (24 + b)) (hg : be 3 = al 3) (hk : be 8 = al 8) : Inv be N B h := by
  obtain ⟨⟨i1, i2, i3, i4, i5⟩, iR, iT, iB, iG, iK⟩ := I
  refine ⟨⟨h4.trans i1, i2, h6.trans i3, i4, h8.trans i5⟩, fun i hi => (iR i hi).congr (hs i hi), ht, fun b q => (iB b q).congr (hb b q), fun j hj => by rw [hg]; exact iG j hj, fun k q => ?_⟩
  rw [show be (8 + 0) = al (8 + 0) from hk]
  exact iK k q
theorem TI.congr {al be : Nat → Nat → Int32} (h : TI al) (e : be (10 + 6) = al (10 + 6)) : TI be := by
  unfold TI at h ⊢
  rw [e]
  exact h
section IV
variable {al : Nat → Nat → Int32} {N B h : Nat}
theorem Inv.ab (I : Inv al N B h) : abOK al := by
  intro i hi
  by_cases q : i = 6
  · subst q
    exact I.2.2.1
  · obtain ⟨o, a, t, c, h1, h2, h3, -⟩ := I.2.1 i (by omega)
    exact ⟨a, h2.1, h3⟩
theorem Inv.h20 (I : Inv al N B h) : N < 6 → al (10 + N) 3 = 20 := by
  intro hN
  obtain ⟨o, a, t, c, h1, h2, h3, h4, h5, h7, h8⟩ := I.2.1 N hN
  have h9 := h2.2.1
  rw [(h8 (Nat.le_refl N)).2.1] at h9
  exact h9
theorem Inv.g (I : Inv al N B h) : gOK (gf al) := by
  intro t
  exact I.2.2.2.2.1 _ (Nat.mod_lt _ (by decide))
theorem Inv.lBk (I : Inv al N B h) : ∀ i, i < N → bk (gf al) 100 0 (rowS al i) < 100 := by
  intro i hi
  have h6 := I.1.2.1
  obtain ⟨o, a, t, c, h1, h2, h3, h4, h5, -⟩ := I.2.1 i (by omega)
  have h9 := bk_le I.g 100 0 a t c _ h2 h3 h4 h5
  split at h9
  · omega
  · split at h9
    · omega
    · omega
theorem Inv.lAr (I : Inv al N B h) : ∀ i, i < N → ar (gf al) 100 0 (rowS (zup al (10 + i) 4 1) i) < 100 := by
  intro i hi
  have h6 := I.1.2.1
  obtain ⟨o, a, t, c, h1, h2, h3, h4, h5, -⟩ := I.2.1 i (by omega)
  have hr : rowK (rowS (zup al (10 + i) 4 1) i) a t 1 := by
    unfold rowS
    rw [zup_k, up_n (by decide), up_n (by decide), up_s]
    exact ⟨h2.1, h2.2.1, rfl⟩
  have h9 := ar_le I.g 100 0 a t 1 _ hr h3 h4 (by decide)
  omega
theorem Inv.va (I : Inv al N B h) : ∀ i, i < N → v_arrives al (nI i) = if al (10 + i) 4 = 2 then 0 else arS al i (gf al) (ar (gf al) 100 0 (rowS (zup al (10 + i) 4 1) i)) (10 + i) 2 := by
  intro i hi
  have h6 := I.1.2.1
  obtain ⟨o, a, t, c, h1, h2, h3, h4, h5, -⟩ := I.2.1 i (by omega)
  exact arr_ahead (c := c) (by omega) I.g h2 h3 h4
theorem Inv.set (I : Inv al N B h) {j : Nat} {y z : Int32} : Inv (zup (zup al 1 j y) 2 j z) N B h := by
  have e : ∀ k, k ≠ 1 → k ≠ 2 → zup (zup al 1 j y) 2 j z k = al k := fun k h1 h2 => by rw [zup_o h2, zup_o h1]
  exact I.keep (by rw [e 0 (by decide) (by decide)]) (by rw [e 0 (by decide) (by decide)]) (by rw [e 0 (by decide) (by decide)]) (fun i hi => e _ (by omega) (by omega)) (I.2.2.1.congr (e _ (by decide) (by decide))) (fun b hb => e _ (by omega) (by omega)) (e _ (by decide) (by decide)) (e _ (by decide) (by decide))
theorem Inv.setGust (I : Inv al N B h) {j g : Nat} (hg : g ≤ 9) : Inv (zup al 3 j (nI g)) N B h := by
  obtain ⟨⟨i1, i2, i3, i4, i5⟩, iR, iT, iB, iG, iK⟩ := I
  have e : ∀ k, k ≠ 3 → zup al 3 j (nI g) k = al k := fun k h1 => zup_o h1
  refine ⟨⟨by rw [e 0 (by decide)]; exact i1, i2, by rw [e 0 (by decide)]; exact i3, i4, by rw [e 0 (by decide)]; exact i5⟩, fun i hi => (iR i hi).congr (e _ (by omega)), iT.congr (e _ (by decide)), fun b q => (iB b q).congr (e _ (by omega)), fun q hq => ?_, fun k hk => by rw [e _ (by decide)]; exact iK k hk⟩
  rw [zup_k]
  by_cases q1 : q = j
  · rw [q1, up_s]
    exact ⟨g, rfl, hg⟩
  · rw [up_n q1]
    exact iG q hq
theorem Inv.build (I : Inv al N B h) {o : Nat} (hN : N < 6) (ho : o ≤ 8) : Inv (zup (zup al (10 + N) 0 (nI o)) 0 4 (nI (N + 1))) (N + 1) B h := by
  obtain ⟨⟨i1, i2, i3, i4, i5⟩, iR, iT, iB, iG, iK⟩ := I
  have e : ∀ k, k ≠ 0 → k ≠ 10 + N → zup (zup al (10 + N) 0 (nI o)) 0 4 (nI (N + 1)) k = al k := fun k h1 h2 => by rw [zup_o h1, zup_o h2]
  have e0 : ∀ f, f ≠ 4 → zup (zup al (10 + N) 0 (nI o)) 0 4 (nI (N + 1)) 0 f = al 0 f := fun f hf => by rw [zup_k, up_n hf, zup_o (by omega)]
  refine ⟨⟨by rw [zup_k, up_s], by omega, by rw [e0 6 (by decide)]; exact i3, i4, by rw [e0 8 (by decide)]; exact i5⟩, fun i hi => ?_, iT.congr (e _ (by decide) (by omega)), fun b q => (iB b q).congr (e _ (by omega) (by omega)), fun q hq => by rw [e _ (by decide) (by omega)]; exact iG q hq, fun k hk => by rw [e _ (by decide) (by omega)]; exact iK k hk⟩
  obtain ⟨o', a, t, c, h1, h2, h3, h4, h5, h6, h7⟩ := iR i hi
  by_cases q : i = N
  · subst q
    obtain ⟨rfl, rfl, rfl⟩ := h7 (Nat.le_refl i)
    refine ⟨o, 0, 20, 0, ?_, ?_, by omega, by omega, by omega, fun _ => ⟨by omega, ho⟩, fun q => by omega⟩
    · rw [zup_o (by omega), zup_k, up_s]
    · unfold rowK rowS at h2 ⊢
      rw [zup_o (by omega), zup_k, up_n (by decide), up_n (by decide), up_n (by decide)]
      exact h2
  · have e9 := e (10 + i) (by omega) (by omega)
    refine ⟨o', a, t, c, by rw [e9]; exact h1, ?_, h3, h4, h5, fun z => h6 (by omega), fun z => h7 (by omega)⟩
    unfold rowK rowS at h2 ⊢
    rw [e9]
    exact h2
theorem Inv.launch (I : Inv al N B h) {L : Nat} (hB : B < 4) (hL : L ≤ 900) : Inv (zup (zup al (24 + B) 0 (nI L)) 0 6 (nI (B + 1))) N (B + 1) h := by
  obtain ⟨⟨i1, i2, i3, i4, i5⟩, iR, iT, iB, iG, iK⟩ := I
  have e : ∀ k, k ≠ 0 → k ≠ 24 + B → zup (zup al (24 + B) 0 (nI L)) 0 6 (nI (B + 1)) k = al k := fun k h1 h2 => by rw [zup_o h1, zup_o h2]
  have e0 : ∀ f, f ≠ 6 → zup (zup al (24 + B) 0 (nI L)) 0 6 (nI (B + 1)) 0 f = al 0 f := fun f hf => by rw [zup_k, up_n hf, zup_o (by omega)]
  refine ⟨⟨by rw [e0 4 (by decide)]; exact i1, i2, by rw [zup_k, up_s], by omega, by rw [e0 8 (by decide)]; exact i5⟩, fun i hi => (iR i hi).congr (e _ (by omega) (by omega)), iT.congr (e _ (by decide) (by omega)), fun b q => ?_, fun q hq => by rw [e _ (by decide) (by omega)]; exact iG q hq, fun k hk => by rw [e _ (by decide) (by omega)]; exact iK k hk⟩
  obtain ⟨L', f, t, h1, h2, h3, h4, h5⟩ := iB b q
  by_cases q1 : b = B
  · subst q1
    obtain ⟨rfl, rfl⟩ := h5 (Nat.le_refl b)
    refine ⟨L, 0, 0, ?_, ?_, ?_, fun _ => ⟨by omega, hL⟩, fun _ => ⟨rfl, rfl⟩⟩
    · rw [zup_o (by omega), zup_k, up_s]
    · rw [zup_o (by omega), zup_k, up_n (by decide)]
      exact h2
    · rw [zup_o (by omega), zup_k, up_n (by decide)]
      exact h3
  · have e9 := e (24 + b) (by omega) (by omega)
    exact ⟨L', f, t, by rw [e9]; exact h1, by rw [e9]; exact h2, by rw [e9]; exact h3, fun z => h4 (by omega), fun z => h5 (by omega)⟩
theorem Inv.fill (I : Inv al N B h) {i j a o : Nat} {v w : Int32} (hi : i < N) (ha : al (10 + i) 2 = nI a) (ho : al (10 + i) 0 = nI o) (hao : a < o) (ho8 : o ≤ 8) : Inv (zup (zup (zup al 1 j v) (17 + i) a w) (10 + i) 2 (nI (a + 1))) N B h := by
  obtain ⟨⟨i1, i2, i3, i4, i5⟩, iR, iT, iB, iG, iK⟩ := I
  have e : ∀ k, k ≠ 1 → k ≠ 17 + i → k ≠ 10 + i → zup (zup (zup al 1 j v) (17 + i) a w) (10 + i) 2 (nI (a + 1)) k = al k := fun k h1 h2 h3 => by rw [zup_o h3, zup_o h2, zup_o h1]
  refine ⟨⟨by rw [e 0 (by decide) (by omega) (by omega)]; exact i1, i2, by rw [e 0 (by decide) (by omega) (by omega)]; exact i3, i4, by rw [e 0 (by decide) (by omega) (by omega)]; exact i5⟩, fun q hq => ?_, iT.congr (e _ (by decide) (by omega) (by omega)), fun b q => (iB b q).congr (e _ (by omega) (by omega) (by omega)), fun q hq => by rw [e _ (by decide) (by omega) (by omega)]; exact iG q hq, fun k hk => by rw [e _ (by decide) (by omega) (by omega)]; exact iK k hk⟩
  by_cases q1 : q = i
  · subst q1
    obtain ⟨o', a', t, c, h1, h2, h3, h4, h5, h6, h7⟩ := iR q hq
    have ea : a' = a := (nI_eq (by omega) (by omega)).mp (h2.1.symm.trans ha)
    refine ⟨o, a + 1, t, c, ?_, ?_, by omega, h4, h5, fun _ => ⟨by omega, ho8⟩, fun z => by omega⟩
    · rw [zup_k, up_n (by decide), zup_o (by omega), zup_o (by omega)]
      exact ho
    · unfold rowK rowS at h2 ⊢
      rw [zup_k, up_s, up_n (by decide), up_n (by decide), zup_o (by omega), zup_o (by omega)]
      exact ⟨rfl, h2.2.1, h2.2.2⟩
  · exact (iR q hq).congr (e _ (by omega) (by omega) (by omega))
theorem Inv.go (I : Inv al N B h) {i : Nat} (hi : i < N) : Inv (zup al (10 + i) 4 1) N B h := by
  obtain ⟨⟨i1, i2, i3, i4, i5⟩, iR, iT, iB, iG, iK⟩ := I
  have e : ∀ k, k ≠ 10 + i → zup al (10 + i) 4 1 k = al k := fun k h1 => zup_o h1
  refine ⟨⟨by rw [e 0 (by omega)]; exact i1, i2, by rw [e 0 (by omega)]; exact i3, i4, by rw [e 0 (by omega)]; exact i5⟩, fun q hq => ?_, iT.congr (e _ (by omega)), fun b q => (iB b q).congr (e _ (by omega)), fun q hq => by rw [e _ (by omega)]; exact iG q hq, fun k hk => by rw [e _ (by omega)]; exact iK k hk⟩
  by_cases q1 : q = i
  · subst q1
    obtain ⟨o', a', t, c, h1, h2, h3, h4, h5, h6, h7⟩ := iR q hq
    refine ⟨o', a', t, 1, ?_, ?_, h3, h4, by omega, h6, fun z => by omega⟩
    · rw [zup_k, up_n (by decide)]
      exact h1
    · unfold rowK rowS at h2 ⊢
      rw [zup_k, up_n (by decide), up_n (by decide), up_s]
      exact ⟨h2.1, h2.2.1, rfl⟩
  · exact (iR q hq).congr (e _ (by omega))
theorem Inv.boat (I : Inv al N B h) {be : Nat → Nat → Int32} {i : Nat} (hi : i < B) (h0 : ∀ f, f ≠ 9 → be 0 f = al 0 f) (hs : ∀ q, q < 7 → be (10 + q) = al (10 + q)) (hb : ∀ b, b < 4 → b ≠ i → be (24 + b) = al (24 + b)) (hi2 : BI be B i) (hg : be 3 = al 3) (hk : KI be h) : Inv be N B h := by
  obtain ⟨⟨i1, i2, i3, i4, i5⟩, iR, iT, iB, iG, iK⟩ := I
  refine ⟨⟨by rw [h0 4 (by decide)]; exact i1, i2, by rw [h0 6 (by decide)]; exact i3, i4, by rw [h0 8 (by decide)]; exact i5⟩, fun q hq => (iR q hq).congr (hs q (by omega)), iT.congr (hs 6 (by decide)), fun b q => ?_, fun q hq => by rw [hg]; exact iG q hq, hk⟩
  by_cases q1 : b = i
  · rw [q1]
    exact hi2
  · exact (iB b q).congr (hb b q q1)
theorem Inv.back (I : Inv al N B h) {be : Nat → Nat → Int32} (e : ∀ k, k ≠ 7 → k ≠ 9 → k ≠ 16 → k ≠ 23 → be k = al k) (ht : TI be) : Inv be N B h :=
  I.keep (by rw [e 0 (by decide) (by decide) (by decide) (by decide)]) (by rw [e 0 (by decide) (by decide) (by decide) (by decide)]) (by rw [e 0 (by decide) (by decide) (by decide) (by decide)]) (fun i hi => e _ (by omega) (by omega) (by omega) (by omega)) ht (fun b hb => e _ (by omega) (by omega) (by omega) (by omega)) (e _ (by decide) (by decide) (by decide) (by decide)) (e _ (by decide) (by decide) (by decide) (by decide))
/-- an hour -/
theorem travelS_0 {i q : Nat} {g : Int32} : travelS al i 0 g (10 + q) 0 = al (10 + q) 0 := by
  by_cases e : q = i
  · subst e
    unfold travelS
    split
    · unfold comeDownS
      split
      · rw [zup_k, up_n (by decide)]
        unfold unloadS
        rw [zup_k, up_n (by decide), unlS_o (by omega), slideS_0 (by decide)]
      · exact slideS_0 (by decide)
    · split
      · unfold climbS
        split
        · rw [zup_k, up_n (by decide), zup_k, up_n (by decide)]
        · rw [zup_k, up_n (by decide)]
      · rfl
  · rw [travelS_o (by omega) (by omega) (by omega)]
theorem travN_0 {q : Nat} {g : Int32} : ∀ j, travN al 0 g j (10 + q) 0 = al (10 + q) 0
  | 0 => rfl
  | j + 1 => by
    show travelS (travN al 0 g j) j 0 g (10 + q) 0 = al (10 + q) 0
    rw [travelS_0, travN_0 j]
theorem unlS_k {i k c : Nat} (hc : al (8 + 0) k = nI c) : ∀ m, ∃ c', unlS al i 0 m (8 + 0) k = nI c' ∧ c' ≤ c + m
  | 0 => ⟨c, hc, Nat.le_refl _⟩
  | m + 1 => by
    obtain ⟨c', h1, h2⟩ := unlS_k (i := i) hc m
    show ∃ c'', zup (unlS al i 0 m) (8 + 0) (knN (al (17 + i) m)) (unlS al i 0 m (8 + 0) (knN (al (17 + i) m)) + 1) (8 + 0) k = nI c'' ∧ _
    rw [zup_k]
    by_cases q : k = knN (al (17 + i) m)
    · rw [← q, up_s, h1, nI_1]
      exact ⟨c' + 1, rfl, by omega⟩
    · rw [up_n q, h1]
      exact ⟨c', rfl, by omega⟩
theorem travelS_k {i a k c : Nat} {g : Int32} (hi : i < 6) (ha : al (10 + i) 2 = nI a) (ha8 : a ≤ 8) (hc : al (8 + 0) k = nI c) : ∃ c', travelS al i 0 g (8 + 0) k = nI c' ∧ c' ≤ c + 8 := by
  have hs : slideS al i 0 g (8 + 0) = al (8 + 0) := slideS_o (by omega) (by omega)
  unfold travelS
  split
  · unfold comeDownS
    split
    · obtain ⟨b, hb, e⟩ := fallA_nI (g := g) ha ha8
      obtain ⟨c', h1, h2⟩ := unlS_k (al := slideS al i 0 g) (i := i) (by rw [hs]; exact hc) b
      refine ⟨c', ?_, by omega⟩
      rw [zup_o (by omega)]
      unfold unloadS
      rw [slideS_2 (by decide), e, nI_clamp (by omega), zup_o (by omega)]
      exact h1
    · rw [hs]
      exact ⟨c, hc, by omega⟩
  · split
    · rw [climbS_o (by omega)]
      exact ⟨c, hc, by omega⟩
    · exact ⟨c, hc, by omega⟩
theorem travN_k {k c : Nat} {g : Int32} (hab : abOK al) (hc : al (8 + 0) k = nI c) : ∀ j, j ≤ 6 → ∃ c', travN al 0 g j (8 + 0) k = nI c' ∧ c' ≤ c + 8 * j
  | 0, _ => ⟨c, hc, Nat.le_refl _⟩
  | j + 1, hj => by
    obtain ⟨c', h1, h2⟩ := travN_k (g := g) hab hc j (by omega)
    obtain ⟨a, ha, ha8⟩ := hab j (by omega)
    obtain ⟨c'', h3, h4⟩ := travelS_k (al := travN al 0 g j) (g := g) (show j < 6 by omega) (travN_ab ha j (Nat.le_refl j)) ha8 h1
    exact ⟨c'', h3, by omega⟩
theorem Inv.hour (I : Inv al N B h) (hh3 : h < 2 ^ 30) : Inv (hourS al) N B (h + 1) := by
  have hab := I.ab
  obtain ⟨⟨i1, i2, i3, i4, i5⟩, iR, iT, iB, iG, iK⟩ := I
  have e : ∀ k, k ≠ 0 → k ≠ 6 → k ≠ 8 → (k < 10 ∨ 16 ≤ k) → hourS al k = al k := fun k h1 h2 h3 h4 => hourS_o i1 i2 h1 h2 h3 h4
  refine ⟨⟨by rw [hourS_0, up_n (by decide)]; exact i1, i2, by rw [hourS_0, up_n (by decide)]; exact i3, i4, by rw [hourS_0, up_s, i5, nI_1]⟩, fun i hi => ?_, iT.congr (e _ (by decide) (by decide) (by decide) (by omega)), fun b q => (iB b q).congr (e _ (by omega) (by omega) (by omega) (by omega)), fun q hq => by rw [e _ (by decide) (by decide) (by decide) (by omega)]; exact iG q hq, fun k hk => ?_⟩
  · obtain ⟨o, a, t, c, h1, h2, h3, h4, h5, h6, h7⟩ := iR i hi
    have h0 : hourS al (10 + i) 0 = nI o := by
      unfold hourS
      rw [zup_o (by omega), travN_0]
      exact h1
    have hr := hourS_row i1 i2 (show i < 7 by omega)
    by_cases q : i < N
    · rw [if_pos q] at hr
      obtain ⟨gv, hgv, hg9⟩ := iG (ix (al 0 8) % 8) (Nat.mod_lt _ (by decide))
      rw [hgv] at hr
      obtain ⟨a', t', c', hx', ha', ht', hc', -⟩ := trv_K h2 h3 h4 h5 hg9
      refine ⟨o, a', t', c', h0, by rw [hr]; exact hx', by omega, ht', hc', fun z => ⟨by have := h6 q; omega, (h6 q).2⟩, fun z => by omega⟩
    · rw [if_neg q] at hr
      exact ⟨o, a, t, c, h0, by rw [hr]; exact h2, h3, h4, h5, fun z => absurd z q, h7⟩
  · obtain ⟨c, h1, h2⟩ := iK k hk
    obtain ⟨c', h3, h4⟩ := travN_k (g := al 3 (ix (al 0 8) % 8)) hab h1 (ix (al 0 4)) (by rw [i1, ix_nI (by omega)]; exact i2)
    have i9 : ix (al 0 4) = N := by rw [i1, ix_nI (by omega)]
    rw [i9] at h4
    refine ⟨c', ?_, by omega⟩
    unfold hourS
    rw [zup_o (by omega)]
    exact h3
theorem Inv.hours (I : Inv al N B h) : ∀ T, h + T < 2 ^ 30 → Inv (hourN al T) N B (h + T)
  | 0, _ => I
  | T + 1, hT => (Inv.hours I T (by omega)).hour (by omega)
end IV
theorem Inv.begin : Inv al0 0 0 0 := by
  refine ⟨⟨rfl, by omega, rfl, by omega, rfl⟩, fun i hi => ?_, ⟨0, rfl, by omega⟩, fun b hb => ?_, fun j _ => ⟨0, rfl, by omega⟩, fun k _ => ⟨0, rfl, by omega⟩⟩
  · have e : al0 (10 + i) = fun j => if j = 3 then 20 else 0 := by
      unfold al0
      rw [if_neg (by omega), if_neg (by omega), if_pos (by omega)]
    refine ⟨0, 0, 20, 0, by rw [e]; rfl, ?_, by omega, by omega, by omega, fun q => by omega, fun _ => ⟨rfl, rfl, rfl⟩⟩
    unfold rowK rowS
    rw [e]
    exact ⟨rfl, rfl, rfl⟩
  · have e : al0 (24 + b) = fun _ => 0 := by
      unfold al0
      rw [if_neg (by omega), if_neg (by omega), if_neg (by omega)]
    exact ⟨0, 0, 0, by rw [e]; rfl, by rw [e]; rfl, by rw [e]; rfl, fun q => by omega, fun _ => ⟨rfl, rfl⟩⟩
