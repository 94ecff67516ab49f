/-! the reference looks ahead -/
theorem hourN_o {al : Nat → Nat → Int32} {N h k : Nat} (hN : al 0 4 = nI N) (hN6 : N ≤ 6) (hh : al 0 8 = nI h) (hab : abOK al) (h0 : k ≠ 0) (h6 : k ≠ 6) (h8 : k ≠ 8) (hs : k < 10 ∨ 16 ≤ k) : ∀ t, hourN al t k = al k
  | 0 => rfl
  | t + 1 => by
    show hourS (hourN al t) k = al k
    rw [hourS_o (hourN_inv hN hN6 hh hab t).1 hN6 h0 h6 h8 hs, hourN_o hN hN6 hh hab h0 h6 h8 hs t]
theorem hourN_06 {al : Nat → Nat → Int32} : ∀ t, hourN al t 0 6 = al 0 6
  | 0 => rfl
  | t + 1 => by
    show hourS (hourN al t) 0 6 = al 0 6
    rw [hourS_0, up_n (by decide), hourN_06 t]
theorem hourN_row {al : Nat → Nat → Int32} {N h i : Nat} (hN : al 0 4 = nI N) (hN6 : N ≤ 6) (hh : al 0 8 = nI h) (hh3 : h < 2 ^ 29) (hab : abOK al) (hi : i < N) (t : Nat) (ht : t < 2 ^ 29) : rowS (hourN al (t + 1)) i = trv (rowS (hourN al t) i) (gf al t) := by
  obtain ⟨h1, h2, h3⟩ := hourN_inv hN hN6 hh hab t
  show rowS (hourS (hourN al t)) i = _
  rw [hourS_row h1 hN6 (by omega), if_pos hi, h2, ix_nI (show h + t < 2 ^ 31 by omega), hourN_o hN hN6 hh hab (by decide) (by decide) (by decide) (by omega) t, gf_eq hh (by omega)]
/-- a sledge goes down alone -/
def arE (st : Nat → Nat → Int32) (i : Nat) : Nat → Nat → Int32 := zup (if st (10 + i) 3 = 0 then zup st (10 + i) 4 2 else st) 0 8 (st 0 8 + 1)
def arS (al : Nat → Nat → Int32) (i : Nat) (g : Nat → Int32) : Nat → Nat → Nat → Int32
  | 0 => zup al (10 + i) 4 1
  | j + 1 => arE (slideS (arS al i g j) i 0 (g j)) i
theorem arE_o {st : Nat → Nat → Int32} {i k : Nat} (h0 : k ≠ 0) (h1 : k ≠ 10 + i) : arE st i k = st k := by
  unfold arE
  rw [zup_o h0]
  split
  · rw [zup_o h1]
  · rfl
theorem arE_0 {st : Nat → Nat → Int32} {i : Nat} : arE st i 0 = upd (st 0) 8 (st 0 8 + 1) := by
  unfold arE
  rw [zup_k]
  split
  · rw [zup_o (by omega)]
  · rfl
theorem arS_o {al : Nat → Nat → Int32} {i k : Nat} {g : Nat → Int32} (h0 : k ≠ 0) (h1 : k ≠ 10 + i) (h6 : k ≠ 6) : ∀ j, arS al i g j k = al k
  | 0 => zup_o h1
  | j + 1 => by
    show arE (slideS (arS al i g j) i 0 (g j)) i k = al k
    rw [arE_o h0 h1, slideS_o h1 h6, arS_o h0 h1 h6 j]
theorem arS_0 {al : Nat → Nat → Int32} {i f : Nat} {g : Nat → Int32} (hf : f ≠ 8) : ∀ j, arS al i g j 0 f = al 0 f
  | 0 => congrFun (zup_o (by omega)) f
  | j + 1 => by
    show arE (slideS (arS al i g j) i 0 (g j)) i 0 f = al 0 f
    rw [arE_0, up_n hf, slideS_o (by omega) (by decide), arS_0 hf j]
theorem arS_h {al : Nat → Nat → Int32} {i h : Nat} {g : Nat → Int32} (hh : al 0 8 = nI h) : ∀ j, arS al i g j 0 8 = nI (h + j)
  | 0 => (congrFun (zup_o (by omega)) 8).trans hh
  | j + 1 => by
    show arE (slideS (arS al i g j) i 0 (g j)) i 0 8 = nI (h + (j + 1))
    rw [arE_0, up_s, slideS_o (by omega) (by decide), arS_h hh j, nI_1, Nat.add_assoc]
theorem ar_2 {g : Nat → Int32} {x : Int32 × Int32 × Int32} (h : ¬ x.2.2 = 1) : ∀ f t, ar g f t x = 0
  | 0, _ => rfl
  | f + 1, t => if_pos h
theorem arE_row {st : Nat → Nat → Int32} {i : Nat} : rowS (arE st i) i = (st (10 + i) 2, st (10 + i) 3, if st (10 + i) 3 = 0 then 2 else st (10 + i) 4) := by
  unfold rowS arE
  rw [zup_o (show 10 + i ≠ 0 by omega)]
  split
  · rw [zup_k, up_n (by decide), up_n (by decide), up_s]
  · rfl
theorem arS_row {al : Nat → Nat → Int32} {i : Nat} {g : Nat → Int32} (f j : Nat) (h1 : arS al i g j (10 + i) 4 = 1) : ar g f (j + 1) (trv (rowS (arS al i g j) i) (g j)) = ar g f (j + 1) (rowS (arS al i g (j + 1)) i) := by
  show _ = ar g f (j + 1) (rowS (arE (slideS (arS al i g j) i 0 (g j)) i) i)
  rw [arE_row, slideS_2 (by decide), slideS_3, slideS_4 (by decide)]
  unfold trv
  rw [show (rowS (arS al i g j) i).2.2 = 1 from h1, if_pos rfl]
  show ar g f (j + 1) (if dropH (arS al i g j (10 + i) 2) (arS al i g j (10 + i) 3) (g j) = 0 then (0, dropH (arS al i g j (10 + i) 2) (arS al i g j (10 + i) 3) (g j), 2) else (fallA (arS al i g j (10 + i) 2) (g j), dropH (arS al i g j (10 + i) 2) (arS al i g j (10 + i) 3) (g j), 1)) = _
  by_cases h0 : dropH (arS al i g j (10 + i) 2) (arS al i g j (10 + i) 3) (g j) = 0
  · rw [if_pos h0, if_pos h0]
    refine (ar_2 ?_ _ _).trans (ar_2 ?_ _ _).symm
    · show ¬ (2 : Int32) = 1
      decide
    · show ¬ (2 : Int32) = 1
      decide
  · rw [if_neg h0, if_neg h0, h1]
