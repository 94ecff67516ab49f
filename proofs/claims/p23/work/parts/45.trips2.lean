/-! What the numbers say: arrivals, the end of trips. -/
theorem itr_s {g : Nat → Int32} {x : Int32 × Int32 × Int32} {t : Nat} : itr g x (t + 1) = trv (itr g x t) (g t) := rfl
/-- the row of a sledge, in natural numbers -/
def rowK (x : Int32 × Int32 × Int32) (a t c : Nat) : Prop := x.1 = nI a ∧ x.2.1 = nI t ∧ x.2.2 = nI c
theorem zmx_sub {t d : Nat} (ht : t < 2 ^ 30) (hd : d < 2 ^ 30) : zmx 0 (nI t - nI d) = nI (t - d) := by
  unfold zmx
  rcases Nat.lt_or_ge d t with h | h
  · rw [pk_sub (by omega), if_pos]
    exact nI_lt (a := 0) (by omega) (by omega)
  · rw [show t - d = 0 by omega, if_neg]
    · rfl
    · rw [Int32.lt_iff_toInt_lt, Int32.toInt_sub, nI_toInt (show t < 2 ^ 31 by omega), nI_toInt (show d < 2 ^ 31 by omega), Int32.toInt_zero, Int.bmod_eq_of_le (by omega) (by omega)]
      omega
theorem zmn_add {t : Nat} (ht : t ≤ 20) : zmn 20 (nI t + 5) = nI (if t + 5 ≤ 20 then t + 5 else 20) := by
  unfold zmn
  rw [show (5 : Int32) = nI 5 from rfl, nI_add, show (20 : Int32) = nI 20 from rfl]
  by_cases h : t + 5 ≤ 20
  · rw [if_pos h]
    by_cases h2 : t + 5 = 20
    · rw [h2, if_neg (nI_nlt (Nat.le_refl 20) (by decide))]
    · rw [if_pos (nI_lt (by omega) (by decide))]
  · rw [if_neg h, if_neg (nI_nlt (by omega) (by omega))]
theorem dropH_nI {a t g : Nat} (ha : a ≤ 8) (ht : t ≤ 20) (hg : g ≤ 9) : ∃ b d, b ≤ a ∧ 2 ≤ d ∧ fallA (nI a) (nI g) = nI b ∧ dropH (nI a) (nI t) (nI g) = nI (t - d) := by
  obtain ⟨b, hb, e⟩ := fallA_nI (x := nI a) (g := nI g) rfl ha
  refine ⟨b, 4 - b / 3 + g / 2, hb, by omega, e, ?_⟩
  unfold dropH
  rw [e, show (3 : Int32) = nI 3 from rfl, pk_div (by omega) (by decide) (by decide), show (2 : Int32) = nI 2 from rfl, pk_div (by omega) (by decide) (by decide), show (4 : Int32) = nI 4 from rfl, pk_sub (by omega), nI_add, zmx_sub (by omega) (by omega)]
theorem trv_K {x : Int32 × Int32 × Int32} {a t c g : Nat} (hx : rowK x a t c) (ha : a ≤ 8) (ht : t ≤ 20) (hc : c ≤ 2) (hg : g ≤ 9) : ∃ a' t' c', rowK (trv x (nI g)) a' t' c' ∧ a' ≤ a ∧ t' ≤ 20 ∧ c' ≤ 2 ∧ (c = 0 → c' = 0) ∧ (c = 1 → (c' = 2 ∧ t' = 0) ∨ (c' = 1 ∧ t' + 2 ≤ t)) ∧ (c = 2 → c' = 0 ∨ (c' = 2 ∧ t' = t + 5)) := by
  obtain ⟨x1, x2, x3⟩ := x
  obtain ⟨rfl, rfl, rfl⟩ : x1 = nI a ∧ x2 = nI t ∧ x3 = nI c := hx
  unfold trv
  dsimp only
  rcases (show c = 0 ∨ c = 1 ∨ c = 2 by omega) with rfl | rfl | rfl
  · rw [if_neg (by decide), if_neg (by decide)]
    exact ⟨a, t, 0, ⟨rfl, rfl, rfl⟩, Nat.le_refl a, ht, by omega, fun _ => rfl, fun h => by omega, fun h => by omega⟩
  · rw [if_pos (by decide)]
    obtain ⟨b, d, hb, hd, e1, e2⟩ := dropH_nI (t := t) ha ht hg
    rw [e1, e2]
    by_cases h0 : t - d = 0
    · rw [h0, if_pos (by decide)]
      exact ⟨0, 0, 2, ⟨rfl, rfl, rfl⟩, by omega, by omega, by omega, fun h => by omega, fun _ => Or.inl ⟨rfl, rfl⟩, fun h => by omega⟩
    · rw [if_neg (nI_ne0 (by omega) (by omega))]
      exact ⟨b, t - d, 1, ⟨rfl, rfl, rfl⟩, hb, by omega, by omega, fun h => by omega, fun _ => Or.inr ⟨rfl, by omega⟩, fun h => by omega⟩
  · rw [if_neg (by decide), if_pos (by decide), zmn_add ht]
    by_cases h : t + 5 ≤ 20
    · rw [if_pos h]
      by_cases h2 : t + 5 = 20
      · rw [h2, if_pos (by decide)]
        exact ⟨a, 20, 0, ⟨rfl, rfl, rfl⟩, Nat.le_refl a, by omega, by omega, fun h => by omega, fun h => by omega, fun _ => Or.inl rfl⟩
      · rw [if_neg (show ¬ nI (t + 5) = 20 from fun q => h2 ((nI_eq (by omega) (by decide)).mp (show nI (t + 5) = nI 20 from q)))]
        exact ⟨a, t + 5, 2, ⟨rfl, rfl, rfl⟩, Nat.le_refl a, h, by omega, fun h => by omega, fun h => by omega, fun _ => Or.inr ⟨rfl, rfl⟩⟩
    · rw [if_neg h, if_pos (by decide)]
      exact ⟨a, 20, 0, ⟨rfl, rfl, rfl⟩, Nat.le_refl a, by omega, by omega, fun h => by omega, fun h => by omega, fun _ => Or.inl rfl⟩
/-- the gusts are 0 to 9 -/
def gOK (g : Nat → Int32) : Prop := ∀ t, ∃ k, g t = nI k ∧ k ≤ 9
theorem bk_le {g : Nat → Int32} (hg : gOK g) : ∀ (f j a t c : Nat) (x : Int32 × Int32 × Int32), rowK x a t c → a ≤ 8 → t ≤ 20 → c ≤ 2 → bk g f j x ≤ (if c = 0 then 0 else if c = 1 then t + 22 else 21 - t)
  | 0, _, _, _, _, _, _, _, _, _ => Nat.zero_le _
  | f + 1, j, a, t, c, x, hx, ha, ht, hc => by
    show (if x.2.2 = 0 then 0 else bk g f (j + 1) (trv x (g j)) + 1) ≤ _
    obtain ⟨k, hk, hk9⟩ := hg j
    obtain ⟨a', t', c', hx', ha', ht', hc', z0, z1, z2⟩ := trv_K hx ha ht hc hk9
    rw [← hk] at hx'
    have ih := bk_le hg f (j + 1) a' t' c' _ hx' (by omega) ht' hc'
    rcases (show c = 0 ∨ c = 1 ∨ c = 2 by omega) with rfl | rfl | rfl
    · rw [if_pos (show x.2.2 = 0 from hx.2.2)]
      exact Nat.zero_le _
    · rw [if_neg (fun q => absurd (hx.2.2.symm.trans q) (by decide)), if_neg (by decide), if_pos rfl]
      rcases z1 rfl with ⟨rfl, rfl⟩ | ⟨rfl, h⟩
      · rw [if_neg (by decide), if_neg (by decide)] at ih
        omega
      · rw [if_neg (by decide), if_pos rfl] at ih
        omega
    · rw [if_neg (fun q => absurd (hx.2.2.symm.trans q) (by decide)), if_neg (by decide), if_neg (by decide)]
      rcases z2 rfl with rfl | ⟨rfl, h⟩
      · rw [if_pos rfl] at ih
        omega
      · rw [if_neg (by decide), if_neg (by decide)] at ih
        omega
theorem ar_le {g : Nat → Int32} (hg : gOK g) : ∀ (f j a t c : Nat) (x : Int32 × Int32 × Int32), rowK x a t c → a ≤ 8 → t ≤ 20 → c ≤ 2 → ar g f j x ≤ t + 1
  | 0, _, _, _, _, _, _, _, _, _ => Nat.zero_le _
  | f + 1, j, a, t, c, x, hx, ha, ht, hc => by
    show (if ¬ x.2.2 = 1 then 0 else ar g f (j + 1) (trv x (g j)) + 1) ≤ _
    obtain ⟨k, hk, hk9⟩ := hg j
    obtain ⟨a', t', c', hx', ha', ht', hc', z0, z1, z2⟩ := trv_K hx ha ht hc hk9
    rw [← hk] at hx'
    by_cases h1 : x.2.2 = 1
    · rw [if_neg (fun q => q h1)]
      have hc1 : c = 1 := (nI_eq (by omega) (by decide)).mp (hx.2.2.symm.trans h1)
      rcases z1 hc1 with ⟨rfl, rfl⟩ | ⟨rfl, h⟩
      · rw [ar_2 (by rw [hx'.2.2]; decide)]
        omega
      · have ih := ar_le hg f (j + 1) a' t' 1 _ hx' (by omega) ht' hc'
        omega
    · rw [if_pos h1]
      exact Nat.zero_le _
/-- while a sledge goes down, its row is the same on both sides; when it is down, what it had is ashore -/
theorem ar_land {al be : Nat → Nat → Int32} {i a t c : Nat} {g : Nat → Int32} (hg : gOK g) (hi : i < 6) : ∀ (f j : Nat), (∃ a t : Nat, rowK (rowS (trvT be 6 1 g j) 6) a t 1 ∧ a ≤ 8 ∧ t ≤ 20) → rowS (arS al i g j) i = rowS (trvT be 6 1 g j) 6 → ashN 1 (trvT be 6 1 g j) = ashN 1 be → ar g f j (rowS (trvT be 6 1 g j) 6) < f → ashN 1 (trvT be 6 1 g (j + ar g f j (rowS (trvT be 6 1 g j) 6))) = ashN 1 be + arS al i g (j + ar g f j (rowS (trvT be 6 1 g j) 6)) (10 + i) 2
  | 0, _, _, _, _, h => absurd h (Nat.not_lt_zero _)
  | f + 1, j, ⟨a, t, hx, ha, ht⟩, hr, hs, hlt => by
    have hx1 : (rowS (trvT be 6 1 g j) 6).2.2 = 1 := hx.2.2
    have e0 : ar g (f + 1) j (rowS (trvT be 6 1 g j) 6) = ar g f (j + 1) (rowS (trvT be 6 1 g (j + 1)) 6) + 1 := by
      show (if ¬ (rowS (trvT be 6 1 g j) 6).2.2 = 1 then 0 else ar g f (j + 1) (trv (rowS (trvT be 6 1 g j) 6) (g j)) + 1) = _
      rw [if_neg (fun q => q hx1), ← rowS_travel (sh := 1) (by decide)]
      rfl
    rw [e0] at hlt ⊢
    obtain ⟨k, hk, hk9⟩ := hg j
    obtain ⟨b, d, hb, hd, f1, f2⟩ := dropH_nI (t := t) ha ht hk9
    have ea : trvT be 6 1 g j (10 + 6) 2 = nI a := hx.1
    have eh : trvT be 6 1 g j (10 + 6) 3 = nI t := hx.2.1
    have ex : (rowS (trvT be 6 1 g j) 6).1 = nI a := hx.1
    have ey : (rowS (trvT be 6 1 g j) 6).2.1 = nI t := hx.2.1
    have hA := ash_travel (al := trvT be 6 1 g j) (i := 6) (sh := 1) (g := g j) (by decide) (by decide) ea ha
    have hl : landA (rowS (trvT be 6 1 g j) 6) (g j) = if nI (t - d) = 0 then nI b else 0 := by
      unfold landA
      rw [if_pos hx1, ex, ey, hk, f1, f2]
    have hsl : rowS (arS al i g j) i = (nI a, nI t, 1) := hr.trans (Prod.ext ex (Prod.ext ey hx1))
    have s2 : arS al i g j (10 + i) 2 = nI a := congrArg (fun z => z.1) hsl
    have s3 : arS al i g j (10 + i) 3 = nI t := congrArg (fun z => z.2.1) hsl
    have s4 : arS al i g j (10 + i) 4 = 1 := congrArg (fun z => z.2.2) hsl
    have hrow : rowS (arS al i g (j + 1)) i = (nI b, nI (t - d), if nI (t - d) = 0 then 2 else 1) := by
      show rowS (arE (slideS (arS al i g j) i 0 (g j)) i) i = _
      rw [arE_row, slideS_2 (by decide), slideS_3, slideS_4 (by decide), s2, s3, s4, hk, f1, f2]
    have htr : rowS (trvT be 6 1 g (j + 1)) 6 = trv (nI a, nI t, 1) (nI k) := by
      show rowS (travelS (trvT be 6 1 g j) 6 1 (g j)) 6 = _
      rw [rowS_travel (by decide), ← hr, hsl, hk]
    have htr2 : trv (nI a, nI t, 1) (nI k) = if nI (t - d) = 0 then (0, nI (t - d), 2) else (nI b, nI (t - d), 1) := by
      unfold trv
      dsimp only
      rw [if_pos rfl, f1, f2]
    by_cases h0 : nI (t - d) = 0
    · rw [if_pos h0] at hl htr2 hrow
      have e1 : ar g f (j + 1) (rowS (trvT be 6 1 g (j + 1)) 6) = 0 := ar_2 (by rw [htr, htr2]; show ¬ (2 : Int32) = 1; decide) _ _
      rw [e1]
      show ashN 1 (travelS (trvT be 6 1 g j) 6 1 (g j)) = ashN 1 be + (rowS (arS al i g (j + 1)) i).1
      rw [hA, hs, hl, hrow]
    · rw [if_neg h0] at hl htr2 hrow
      have h00 : ¬ t - d = 0 := fun q => h0 (by rw [q]; rfl)
      have ih := ar_land (al := al) (be := be) (a := a) (t := t) (c := c) hg hi f (j + 1) ⟨b, t - d, by rw [htr, htr2]; exact ⟨rfl, rfl, rfl⟩, by omega, by omega⟩ (by rw [hrow, htr, htr2]) (by
        show ashN 1 (travelS (trvT be 6 1 g j) 6 1 (g j)) = ashN 1 be
        rw [hA, hs, hl, Int32.add_zero]) (by omega)
      rw [show j + (ar g f (j + 1) (rowS (trvT be 6 1 g (j + 1)) 6) + 1) = j + 1 + ar g f (j + 1) (rowS (trvT be 6 1 g (j + 1)) 6) by omega]
      exact ih
theorem arr_ahead {al : Nat → Nat → Int32} {i a t c : Nat} (hi : i < 6) (hg : gOK (gf al)) (hx : rowK (rowS al i) a t c) (ha : a ≤ 8) (ht : t ≤ 20) : v_arrives al (nI i) = if al (10 + i) 4 = 2 then 0 else arS al i (gf al) (ar (gf al) 100 0 (rowS (zup al (10 + i) 4 1) i)) (10 + i) 2 := by
  have hix : ix (nI i) = i := ix_nI (by omega)
  have e4 : becomeS al 6 i (10 + 6) 4 = al (10 + i) 4 := congrArg (fun z => z.2.2) (becomeS_row (al := al) (i := 6) (k := i))
  unfold v_arrives u_arrives
  rw [hix, e4]
  by_cases h2 : al (10 + i) 4 = 2
  · rw [if_pos h2, if_pos h2]
  · rw [if_neg h2, if_neg h2, if_neg h2]
    have er : rowS (zup (becomeS al 6 i) (10 + 6) 4 1) 6 = rowS (zup al (10 + i) 4 1) i := by
      have hb := becomeS_row (al := al) (i := 6) (k := i)
      unfold rowS at hb ⊢
      rw [zup_k, zup_k, up_n (by decide), up_n (by decide), up_s, up_n (by decide), up_n (by decide), up_s]
      exact Prod.ext (congrArg (fun z => z.1) hb) (Prod.ext (congrArg (fun z => z.2.1) hb) rfl)
    have er2 : rowS (zup al (10 + i) 4 1) i = (nI a, nI t, 1) := by
      unfold rowS
      rw [zup_k, up_n (by decide), up_n (by decide), up_s]
      exact Prod.ext hx.1 (Prod.ext hx.2.1 rfl)
    have hlt := ar_le (g := gf al) hg 100 0 a t 1 (rowS (zup (becomeS al 6 i) (10 + 6) 4 1) 6) (by rw [er, er2]; exact ⟨rfl, rfl, rfl⟩) ha ht (by decide)
    have h := ar_land (al := al) (be := zup (becomeS al 6 i) (10 + 6) 4 1) (i := i) (a := a) (t := t) (c := c) (g := gf al) hg hi 100 0 ⟨a, t, by show rowK (rowS (zup (becomeS al 6 i) (10 + 6) 4 1) 6) a t 1; rw [er, er2]; exact ⟨rfl, rfl, rfl⟩, ha, ht⟩ er.symm rfl (by show ar (gf al) 100 0 (rowS (zup (becomeS al 6 i) (10 + 6) 4 1) 6) < 100; omega)
    rw [Nat.zero_add] at h
    have h' : ashN 1 (trvT (zup (becomeS al 6 i) (10 + 6) 4 1) 6 1 (gf al) (ar (gf al) 100 0 (rowS (zup (becomeS al 6 i) (10 + 6) 4 1) 6))) = ashN 1 (zup (becomeS al 6 i) (10 + 6) 4 1) + arS al i (gf al) (ar (gf al) 100 0 (rowS (zup (becomeS al 6 i) (10 + 6) 4 1) 6)) (10 + i) 2 := h
    show ashN 1 _ - ashN 1 _ = _
    rw [h', er, Int32.add_comm, Int32.add_sub_cancel]
