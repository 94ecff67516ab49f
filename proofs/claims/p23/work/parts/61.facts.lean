/-! What an hour does, as the law asks of it. -/
theorem z_ap {al : Nat → Nat → Int32} {k : Nat} {v : Int32} {f a c : Nat} : zup al k f v a c = if a = k then (if c = f then v else al a c) else al a c := by
  unfold zup upd
  by_cases q : a = k
  · rw [if_pos q, if_pos q]
  · rw [if_neg q, if_neg q]
theorem slideS_l {al be : Nat → Nat → Int32} {i : Nat} {g : Int32} (h1 : al (10 + i) = be (10 + i)) (h2 : al (6 + 0) = be (6 + 0)) {k : Nat} (hk : al k = be k) : slideS al i 0 g k = slideS be i 0 g k := by
  unfold slideS
  rw [h1, h2]
  split
  · funext f
    simp only [z_ap]
    rw [hk]
  · funext f
    simp only [z_ap]
    rw [hk]
theorem climbS_l {al be : Nat → Nat → Int32} {i : Nat} (h1 : al (10 + i) = be (10 + i)) {k : Nat} (hk : al k = be k) : climbS al i k = climbS be i k := by
  unfold climbS
  rw [h1]
  split
  · funext f
    simp only [z_ap]
    rw [hk]
  · funext f
    simp only [z_ap]
    rw [hk]
theorem unlS_l {al be : Nat → Nat → Int32} {i : Nat} (h1 : al (17 + i) = be (17 + i)) (h2 : al (8 + 0) = be (8 + 0)) : ∀ (m k : Nat), al k = be k → unlS al i 0 m k = unlS be i 0 m k
  | 0, _, hk => hk
  | m + 1, k, hk => by
    show zup (unlS al i 0 m) (8 + 0) (knN (al (17 + i) m)) (unlS al i 0 m (8 + 0) (knN (al (17 + i) m)) + 1) k = zup (unlS be i 0 m) (8 + 0) (knN (be (17 + i) m)) (unlS be i 0 m (8 + 0) (knN (be (17 + i) m)) + 1) k
    rw [h1]
    funext f
    simp only [z_ap]
    rw [unlS_l h1 h2 m k hk, unlS_l h1 h2 m (8 + 0) h2]
theorem unloadS_l {al be : Nat → Nat → Int32} {i : Nat} (h1 : al (10 + i) = be (10 + i)) (h2 : al (17 + i) = be (17 + i)) (h3 : al (8 + 0) = be (8 + 0)) {k : Nat} (hk : al k = be k) : unloadS al i 0 k = unloadS be i 0 k := by
  unfold unloadS
  rw [h1]
  funext f
  simp only [z_ap]
  rw [unlS_l h2 h3 _ k hk]
theorem travelS_l {al be : Nat → Nat → Int32} {i : Nat} {g : Int32} (h1 : al (10 + i) = be (10 + i)) (h2 : al (17 + i) = be (17 + i)) (h3 : al (6 + 0) = be (6 + 0)) (h4 : al (8 + 0) = be (8 + 0)) {k : Nat} (hk : al k = be k) : travelS al i 0 g k = travelS be i 0 g k := by
  have hs : ∀ q, al q = be q → slideS al i 0 g q = slideS be i 0 g q := fun q hq => slideS_l h1 h3 hq
  unfold travelS comeDownS
  rw [h1]
  split
  · rw [hs (10 + i) h1]
    split
    · by_cases e : k = 10 + i
      · subst e
        rw [zup_k, zup_k, unloadS_l (hs _ h1) (hs _ h2) (hs _ h4) (hs _ h1)]
      · rw [zup_o e, zup_o e, unloadS_l (hs _ h1) (hs _ h2) (hs _ h4) (hs _ hk)]
    · exact hs k hk
  · split
    · exact climbS_l h1 hk
    · exact hk
def AG (al be : Nat → Nat → Int32) : Prop := ∀ q, q ≠ 7 → q ≠ 9 → q ≠ 16 → q ≠ 23 → al q = be q
theorem AG.rf {al : Nat → Nat → Int32} : AG al al := fun _ _ _ _ _ => rfl
theorem AG.tr {al be ce : Nat → Nat → Int32} (h : AG al be) (h2 : AG be ce) : AG al ce := fun q a b c d => (h q a b c d).trans (h2 q a b c d)
theorem AG.sm {al be : Nat → Nat → Int32} (h : AG al be) : AG be al := fun q a b c d => (h q a b c d).symm
theorem AG.row {al be : Nat → Nat → Int32} (h : AG al be) {i : Nat} (hi : i < 6) : rowS al i = rowS be i := by
  unfold rowS
  rw [h (10 + i) (by omega) (by omega) (by omega) (by omega)]
theorem AG.at {al be : Nat → Nat → Int32} (h : AG al be) {i f : Nat} (hi : i < 6) : al (10 + i) f = be (10 + i) f := congrFun (h (10 + i) (by omega) (by omega) (by omega) (by omega)) f
theorem AG.gf {al be : Nat → Nat → Int32} (h : AG al be) : gf al = gf be := by
  show (fun t => al 3 ((ix (al 0 8) + t) % 8)) = (fun t => be 3 ((ix (be 0 8) + t) % 8))
  rw [h 0 (by omega) (by omega) (by omega) (by omega), h 3 (by omega) (by omega) (by omega) (by omega)]
theorem AG.inv {al be : Nat → Nat → Int32} {N B h : Nat} (I : Inv al N B h) (e : AG be al) (ht : TI be) : Inv be N B h := I.back (fun k a b c d => e k a b c d) ht
theorem travN_AG {al be : Nat → Nat → Int32} {g : Int32} (h : AG al be) : ∀ j, j ≤ 6 → AG (travN al 0 g j) (travN be 0 g j)
  | 0, _ => h
  | j + 1, hj => fun q a b c d => by
    have ih := travN_AG (g := g) h j (by omega)
    show travelS (travN al 0 g j) j 0 g q = travelS (travN be 0 g j) j 0 g q
    exact travelS_l (ih _ (by omega) (by omega) (by omega) (by omega)) (ih _ (by omega) (by omega) (by omega) (by omega)) (ih _ (by omega) (by omega) (by omega) (by omega)) (ih _ (by omega) (by omega) (by omega) (by omega)) (ih q a b c d)
theorem AG.hour {al be : Nat → Nat → Int32} {N : Nat} (h : AG al be) (hN : be 0 4 = nI N) (hN6 : N ≤ 6) : AG (hourS al) (hourS be) := by
  intro q a b c d
  have h0 := h 0 (by omega) (by omega) (by omega) (by omega)
  have h3 := h 3 (by omega) (by omega) (by omega) (by omega)
  unfold hourS
  rw [h0, h3, hN, ix_nI (show N < 2 ^ 31 by omega)]
  have ht := travN_AG (g := be 3 (ix (be 0 8) % 8)) h N hN6
  by_cases e : q = 0
  · subst e
    rw [zup_k, zup_k, ht 0 (by omega) (by omega) (by omega) (by omega)]
  · rw [zup_o e, zup_o e]
    exact ht q a b c d
theorem sW_AG {cy ad : Nat → Nat} {N B : Nat} {cl al be : Nat → Nat → Int32} {ex : Nat → va_E} (h : AG al be) (hN6 : N ≤ 6) (hB4 : B ≤ 4) : sW cy ad N B cl al ex = sW cy ad N B cl be ex := by
  have e : ∀ q, q ≠ 7 → q ≠ 9 → q ≠ 16 → q ≠ 23 → al q = be q := h
  exact funext fun j => sW_congr (fun _ => by rw [e 0 (by omega) (by omega) (by omega) (by omega), e (6 + 0) (by omega) (by omega) (by omega) (by omega)]; exact ⟨rfl, rfl, rfl⟩) (fun _ => e 1 (by omega) (by omega) (by omega) (by omega)) (fun _ => e 2 (by omega) (by omega) (by omega) (by omega)) (fun _ => e 3 (by omega) (by omega) (by omega) (by omega)) (fun _ => e (8 + 0) (by omega) (by omega) (by omega) (by omega)) (fun i hi _ => by rw [e (10 + i) (by omega) (by omega) (by omega) (by omega)]; exact ⟨rfl, rfl, rfl⟩) (fun i hi _ => by rw [e (10 + i) (by omega) (by omega) (by omega) (by omega), e (17 + i) (by omega) (by omega) (by omega) (by omega)]; exact ⟨rfl, rfl⟩) (fun b hb _ => e (24 + b) (by omega) (by omega) (by omega) (by omega))
/-- the sacks aboard where the sledge comes down -/
def aw (g : Nat → Int32) : Nat → Nat → Int32 × Int32 × Int32 → Int32
  | 0, _, x => x.1
  | f + 1, t, x => if dropH x.1 x.2.1 (g t) = 0 then fallA x.1 (g t) else aw g f (t + 1) (trv x (g t))
theorem trv_1 {x : Int32 × Int32 × Int32} {g : Int32} (h : x.2.2 = 1) : trv x g = if dropH x.1 x.2.1 g = 0 then (0, dropH x.1 x.2.1 g, 2) else (fallA x.1 g, dropH x.1 x.2.1 g, 1) := by
  unfold trv
  rw [if_pos h, h]
theorem arS_next {al : Nat → Nat → Int32} {i j : Nat} {g : Nat → Int32} (h1 : (rowS (arS al i g j) i).2.2 = 1) : rowS (arS al i g (j + 1)) i = (fallA (rowS (arS al i g j) i).1 (g j), dropH (rowS (arS al i g j) i).1 (rowS (arS al i g j) i).2.1 (g j), if dropH (rowS (arS al i g j) i).1 (rowS (arS al i g j) i).2.1 (g j) = 0 then 2 else 1) := by
  show rowS (arE (slideS (arS al i g j) i 0 (g j)) i) i = _
  have h2 : arS al i g j (10 + i) 4 = 1 := h1
  rw [arE_row, slideS_2 (by decide), slideS_3, slideS_4 (by decide), h2]
  rfl
theorem aw_ar {al : Nat → Nat → Int32} {i : Nat} {g : Nat → Int32} : ∀ f j, (rowS (arS al i g j) i).2.2 = 1 → ar g f j (rowS (arS al i g j) i) < f → arS al i g (j + ar g f j (rowS (arS al i g j) i)) (10 + i) 2 = aw g f j (rowS (arS al i g j) i)
  | 0, _, _, h => absurd h (Nat.not_lt_zero _)
  | f + 1, j, h1, hlt => by
    have hr := arS_next h1
    have ha : ar g (f + 1) j (rowS (arS al i g j) i) = ar g f (j + 1) (trv (rowS (arS al i g j) i) (g j)) + 1 := by
      show (if ¬ (rowS (arS al i g j) i).2.2 = 1 then 0 else ar g f (j + 1) (trv (rowS (arS al i g j) i) (g j)) + 1) = _
      rw [if_neg (fun z => z h1)]
    show _ = (if dropH (rowS (arS al i g j) i).1 (rowS (arS al i g j) i).2.1 (g j) = 0 then fallA (rowS (arS al i g j) i).1 (g j) else aw g f (j + 1) (trv (rowS (arS al i g j) i) (g j)))
    by_cases hz : dropH (rowS (arS al i g j) i).1 (rowS (arS al i g j) i).2.1 (g j) = 0
    · rw [if_pos hz, ha, trv_1 h1, if_pos hz, ar_2 (show ¬ (2 : Int32) = 1 by decide)]
      exact congrArg (fun z => z.1) hr
    · rw [if_neg hz] at hr
      have ht : trv (rowS (arS al i g j) i) (g j) = rowS (arS al i g (j + 1)) i := by rw [trv_1 h1, if_neg hz, hr]
      rw [if_neg hz, ha, ht]
      rw [ha, ht] at hlt
      have ih := aw_ar (al := al) (i := i) (g := g) f (j + 1) (by rw [hr]) (by omega)
      exact (congrArg (fun z => arS al i g z (10 + i) 2) (show j + (ar g f (j + 1) (rowS (arS al i g (j + 1)) i) + 1) = j + 1 + ar g f (j + 1) (rowS (arS al i g (j + 1)) i) by omega)).trans ih
theorem v_arr {al : Nat → Nat → Int32} {N B h i : Nat} (I : Inv al N B h) (hi : i < N) : v_arrives al (nI i) = if al (10 + i) 4 = 2 then 0 else aw (gf al) 100 0 (al (10 + i) 2, al (10 + i) 3, 1) := by
  have e : rowS (arS al i (gf al) 0) i = (al (10 + i) 2, al (10 + i) 3, 1) := by
    show rowS (zup al (10 + i) 4 1) i = _
    unfold rowS
    rw [zup_k, up_n (by decide), up_n (by decide), up_s]
  have hl := I.lAr i hi
  have ha := aw_ar (al := al) (i := i) (g := gf al) 100 0 (by rw [e]) (by exact hl)
  rw [I.va i hi, ← e]
  by_cases h2 : al (10 + i) 4 = 2
  · rw [if_pos h2, if_pos h2]
  · rw [if_neg h2, if_neg h2, ← ha, Nat.zero_add]
    rfl
theorem aw_le {g : Nat → Int32} (hg : gOK g) : ∀ (f j a t : Nat) (x : Int32 × Int32 × Int32), rowK x a t 1 → a ≤ 8 → t ≤ 20 → ∃ b, b ≤ a ∧ aw g f j x = nI b
  | 0, _, a, _, _, hx, _, _ => ⟨a, Nat.le_refl a, hx.1⟩
  | f + 1, j, a, t, x, hx, ha, ht => by
    obtain ⟨k, ek, hk⟩ := hg j
    obtain ⟨b, d, hb, hd, e1, e2⟩ := dropH_nI ha ht hk
    show ∃ b, b ≤ a ∧ (if dropH x.1 x.2.1 (g j) = 0 then fallA x.1 (g j) else aw g f (j + 1) (trv x (g j))) = nI b
    have h1 : x.2.2 = 1 := hx.2.2
    rw [trv_1 h1, ek, hx.1, hx.2.1, e1, e2]
    by_cases hz : nI (t - d) = 0
    · rw [if_pos hz]
      exact ⟨b, hb, rfl⟩
    · rw [if_neg hz, if_neg hz]
      obtain ⟨b2, hb2, e3⟩ := aw_le hg f (j + 1) b (t - d) (nI b, nI (t - d), 1) ⟨rfl, rfl, rfl⟩ (by omega) (by omega)
      exact ⟨b2, by omega, e3⟩
theorem aw_fuel {g : Nat → Int32} (hg : gOK g) : ∀ (f j a t : Nat) (x : Int32 × Int32 × Int32), rowK x a t 1 → a ≤ 8 → t ≤ 20 → t < f → aw g (f + 1) j x = aw g f j x
  | 0, _, _, _, _, _, _, _, h => absurd h (Nat.not_lt_zero _)
  | f + 1, j, a, t, x, hx, ha, ht, htf => by
    obtain ⟨k, ek, hk⟩ := hg j
    obtain ⟨b, d, hb, hd, e1, e2⟩ := dropH_nI ha ht hk
    have h1 : x.2.2 = 1 := hx.2.2
    show (if dropH x.1 x.2.1 (g j) = 0 then fallA x.1 (g j) else aw g (f + 1) (j + 1) (trv x (g j))) = (if dropH x.1 x.2.1 (g j) = 0 then fallA x.1 (g j) else aw g f (j + 1) (trv x (g j)))
    rw [trv_1 h1, ek, hx.1, hx.2.1, e1, e2]
    by_cases hz : nI (t - d) = 0
    · rw [if_pos hz, if_pos hz]
    · rw [if_neg hz, if_neg hz, if_neg hz]
      have hp : 0 < t - d := by
        rcases Nat.eq_zero_or_pos (t - d) with q | q
        · rw [q] at hz
          exact absurd nI_0 hz
        · exact q
      exact aw_fuel hg f (j + 1) b (t - d) (nI b, nI (t - d), 1) ⟨rfl, rfl, rfl⟩ (by omega) (by omega) (by omega)
theorem aw_shift {g : Nat → Int32} : ∀ (f j : Nat) (x : Int32 × Int32 × Int32), aw (fun t => g (t + 1)) f j x = aw g f (j + 1) x
  | 0, _, _ => rfl
  | f + 1, j, x => by
    show (if dropH x.1 x.2.1 (g (j + 1)) = 0 then fallA x.1 (g (j + 1)) else aw (fun t => g (t + 1)) f (j + 1) (trv x (g (j + 1)))) = (if dropH x.1 x.2.1 (g (j + 1)) = 0 then fallA x.1 (g (j + 1)) else aw g f (j + 1 + 1) (trv x (g (j + 1))))
    rw [aw_shift f (j + 1)]
theorem bk_shift {g : Nat → Int32} : ∀ (f j : Nat) (x : Int32 × Int32 × Int32), bk (fun t => g (t + 1)) f j x = bk g f (j + 1) x
  | 0, _, _ => rfl
  | f + 1, j, x => by
    show (if x.2.2 = 0 then 0 else bk (fun t => g (t + 1)) f (j + 1) (trv x (g (j + 1))) + 1) = (if x.2.2 = 0 then 0 else bk g f (j + 1 + 1) (trv x (g (j + 1))) + 1)
    rw [bk_shift f (j + 1)]
theorem bk_fuel {g : Nat → Int32} : ∀ (f j : Nat) (x : Int32 × Int32 × Int32), bk g f j x < f → bk g (f + 1) j x = bk g f j x
  | 0, _, _, h => absurd h (Nat.not_lt_zero _)
  | f + 1, j, x, h => by
    show (if x.2.2 = 0 then 0 else bk g (f + 1) (j + 1) (trv x (g j)) + 1) = (if x.2.2 = 0 then 0 else bk g f (j + 1) (trv x (g j)) + 1)
    have h' : (if x.2.2 = 0 then 0 else bk g f (j + 1) (trv x (g j)) + 1) < f + 1 := h
    by_cases h0 : x.2.2 = 0
    · rw [if_pos h0, if_pos h0]
    · rw [if_neg h0] at h'
      rw [if_neg h0, if_neg h0, bk_fuel f (j + 1) (trv x (g j)) (by omega)]
section FX
variable {al : Nat → Nat → Int32} {N B h i : Nat}
theorem gf_hour (I : Inv al N B h) (hh3 : h < 2 ^ 29) : gf (hourS al) = fun t => gf al (t + 1) := by
  have h8 : hourS al 0 8 = nI (h + 1) := by
    rw [hourS_0, up_s, I.1.2.2.2.2, nI_1]
  have h3 : hourS al 3 = al 3 := hourS_o I.1.1 I.1.2.1 (by omega) (by omega) (by omega) (Or.inl (by omega))
  rw [gf_eq h8 (by omega), gf_eq I.1.2.2.2.2 (by omega), h3]
  funext t
  show al 3 ((h + 1 + t) % 8) = al 3 ((h + (t + 1)) % 8)
  rw [show h + 1 + t = h + (t + 1) by omega]
theorem gf_0 (I : Inv al N B h) (hh3 : h < 2 ^ 29) : gf al 0 = al 3 (h % 8) := by
  rw [gf_eq I.1.2.2.2.2 (by omega)]
  rfl
theorem row_hour (I : Inv al N B h) (hh3 : h < 2 ^ 29) (hi : i < N) : rowS (hourS al) i = trv (rowS al i) (al 3 (h % 8)) := by
  have h6 := I.1.2.1
  rw [hourS_row I.1.1 h6 (by omega), if_pos hi, I.1.2.2.2.2, ix_nI (show h < 2 ^ 31 by omega)]
theorem v_back_nI (h6 : i < 6) : v_back al (nI i) = nI (bk (gf al) 100 0 (rowS al i)) := by
  unfold v_back
  rw [ix_nI (show i < 2 ^ 31 by omega)]
theorem lf_back0 (I : Inv al N B h) (hi : i < N) : v_back al (nI i) = 0 ↔ al (10 + i) 4 = 0 := by
  have h6 := I.1.2.1
  have hl := I.lBk i hi
  rw [v_back_nI (by omega)]
  have e : bk (gf al) 100 0 (rowS al i) = if al (10 + i) 4 = 0 then 0 else bk (gf al) 99 1 (trv (rowS al i) (gf al 0)) + 1 := rfl
  rw [e] at hl ⊢
  by_cases h0 : al (10 + i) 4 = 0
  · rw [if_pos h0]
    exact ⟨fun _ => h0, fun _ => nI_0⟩
  · rw [if_neg h0] at hl ⊢
    exact ⟨fun z => absurd z (nI_ne0 (by omega) (by omega)), fun z => absurd z h0⟩
theorem lf_rowK (I : Inv al N B h) (hi : i < N) : ∃ a t c, rowK (rowS al i) a t c ∧ a ≤ 8 ∧ t ≤ 20 ∧ c ≤ 2 := by
  have h6 := I.1.2.1
  obtain ⟨o, a, t, c, h1, h2, h3, h4, h5, -⟩ := I.2.1 i (by omega)
  exact ⟨a, t, c, h2, h3, h4, h5⟩
theorem lf_arr (I : Inv al N B h) (hu : UpI al) (hi : i < N) : ∃ b a, b ≤ a ∧ a ≤ 8 ∧ v_arrives al (nI i) = nI b ∧ al (10 + i) 2 = nI a := by
  have h6 := I.1.2.1
  obtain ⟨a, t, c, h2, h3, h4, h5⟩ := lf_rowK I hi
  rw [v_arr I hi]
  by_cases e : al (10 + i) 4 = 2
  · rw [if_pos e]
    exact ⟨0, a, by omega, h3, nI_0.symm, h2.1⟩
  · rw [if_neg e]
    obtain ⟨b, hb, e1⟩ := aw_le I.g 100 0 a t (al (10 + i) 2, al (10 + i) 3, 1) ⟨h2.1, h2.2.1, rfl⟩ h3 h4
    exact ⟨b, a, hb, h3, e1, h2.1⟩
theorem lf_up (I : Inv al N B h) (hu : UpI al) (hi : i < N) (e : al (10 + i) 4 = 2) : v_arrives al (nI i) = 0 ∧ al (10 + i) 2 = 0 := by
  have h6 := I.1.2.1
  rw [v_arr I hi, if_pos e]
  exact ⟨rfl, hu i (by omega) e⟩
theorem lf_back1 (I : Inv al N B h) (hh3 : h < 2 ^ 29) (hi : i < N) (h0 : ¬ al (10 + i) 4 = 0) : v_back (hourS al) (nI i) = v_back al (nI i) - 1 := by
  have h6 := I.1.2.1
  have hl := I.lBk i hi
  rw [v_back_nI (by omega), v_back_nI (by omega), gf_hour I hh3, row_hour I hh3 hi, bk_shift]
  have e : bk (gf al) 100 0 (rowS al i) = if al (10 + i) 4 = 0 then 0 else bk (gf al) 99 1 (trv (rowS al i) (gf al 0)) + 1 := rfl
  rw [if_neg h0, gf_0 I hh3] at e
  rw [e] at hl ⊢
  rw [bk_fuel 99 1 _ (by omega), nI_pred]
/-- a sledge that goes down: its height, where it goes then, what it has then -/
theorem lf_row1 (I : Inv al N B h) (hh3 : h < 2 ^ 29) (hi : i < N) (h1 : al (10 + i) 4 = 1) : hourS al (10 + i) 3 = dropH (al (10 + i) 2) (al (10 + i) 3) (al 3 (h % 8)) ∧ hourS al (10 + i) 4 = (if dropH (al (10 + i) 2) (al (10 + i) 3) (al 3 (h % 8)) = 0 then 2 else 1) ∧ hourS al (10 + i) 2 = (if dropH (al (10 + i) 2) (al (10 + i) 3) (al 3 (h % 8)) = 0 then 0 else fallA (al (10 + i) 2) (al 3 (h % 8))) := by
  have e := row_hour I hh3 hi
  rw [trv_1 (show (rowS al i).2.2 = 1 from h1)] at e
  have e1 : hourS al (10 + i) 2 = (rowS (hourS al) i).1 := rfl
  have e2 : hourS al (10 + i) 3 = (rowS (hourS al) i).2.1 := rfl
  have e3 : hourS al (10 + i) 4 = (rowS (hourS al) i).2.2 := rfl
  rw [e1, e2, e3, e]
  show _ = dropH (rowS al i).1 (rowS al i).2.1 _ ∧ _ = (if dropH (rowS al i).1 (rowS al i).2.1 _ = 0 then 2 else 1) ∧ _ = (if dropH (rowS al i).1 (rowS al i).2.1 _ = 0 then 0 else fallA (rowS al i).1 _)
  split <;> exact ⟨rfl, rfl, rfl⟩
theorem lf_land (I : Inv al N B h) (hh3 : h < 2 ^ 29) (hi : i < N) (h1 : al (10 + i) 4 = 1) (hz : dropH (al (10 + i) 2) (al (10 + i) 3) (al 3 (h % 8)) = 0) : v_arrives al (nI i) = fallA (al (10 + i) 2) (al 3 (h % 8)) := by
  rw [v_arr I hi, if_neg (by rw [h1]; decide)]
  show (if dropH (al (10 + i) 2) (al (10 + i) 3) (gf al 0) = 0 then fallA (al (10 + i) 2) (gf al 0) else _) = _
  rw [gf_0 I hh3, if_pos hz]
theorem lf_stay (I : Inv al N B h) (I' : Inv (hourS al) N B (h + 1)) (hh3 : h < 2 ^ 29) (hi : i < N) (h1 : al (10 + i) 4 = 1) (hz : ¬ dropH (al (10 + i) 2) (al (10 + i) 3) (al 3 (h % 8)) = 0) : v_arrives (hourS al) (nI i) = v_arrives al (nI i) := by
  obtain ⟨e3, e4, e2⟩ := lf_row1 I hh3 hi h1
  rw [if_neg hz] at e4 e2
  obtain ⟨a, t, c, hk, ha, ht, hc⟩ := lf_rowK I' hi
  rw [v_arr I hi, v_arr I' hi, if_neg (by rw [e4]; decide), if_neg (by rw [h1]; decide), gf_hour I hh3, aw_shift]
  have e9 : aw (gf al) (99 + 1) 1 (hourS al (10 + i) 2, hourS al (10 + i) 3, 1) = aw (gf al) 99 1 (hourS al (10 + i) 2, hourS al (10 + i) 3, 1) := aw_fuel I.g 99 1 a t _ ⟨hk.1, hk.2.1, rfl⟩ ha ht (by omega)
  refine e9.trans ?_
  rw [e2, e3]
  show _ = (if dropH (al (10 + i) 2) (al (10 + i) 3) (gf al 0) = 0 then fallA (al (10 + i) 2) (gf al 0) else aw (gf al) 99 1 (trv (al (10 + i) 2, al (10 + i) 3, 1) (gf al 0)))
  rw [gf_0 I hh3, if_neg hz, trv_1 rfl, if_neg hz]
theorem lf_comes (I : Inv al N B h) (hh3 : h < 2 ^ 29) : ash (hourS al) - ash al = sumI (fun i => landA (rowS al i) (al 3 (h % 8))) N := by
  have e : ash (hourS al) = ash al + sumI (fun i => landA (rowS al i) (al 3 (h % 8))) N := by
    have h9 := grow_H (grow_ash (sh := 0) (by decide)) (fun al v => by unfold ashN; rw [zup_o (by decide)]) I.1.1 I.1.2.1 I.1.2.2.2.2 hh3 I.ab 1 (by decide)
    have e1 : ash (hourS al) = ashN 0 (hourN al 1) := rfl
    have e2 : ash al = ashN 0 al := rfl
    rw [e1, e2, h9]
    congr 1
    show (0 : Int32) + sumI (fun i => landA (itr (gf al) (rowS al i) 0) (gf al 0)) N = _
    rw [Int32.zero_add, gf_0 I hh3]
    rfl
  rw [e, Int32.add_comm, Int32.add_sub_cancel]
theorem lf_h {a t b g : Int32} (hb : b = fallA a g) : zmx 0 (((t - 4) + b / 3) - g / 2) = dropH a t g := by
  unfold dropH
  rw [← hb]
  congr 1
  generalize b / 3 = y
  generalize g / 2 = z
  simp only [Int32.sub_eq_add_neg, Int32.neg_add, Int32.neg_neg]
  ac_rfl
end FX
