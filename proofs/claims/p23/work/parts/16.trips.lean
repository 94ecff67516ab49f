/-! trips of sledges -/
theorem z_top2 {p : Program} {l : Launch} {e : Env} {R : Room} {s : State} {m : MethodId} {args : Array Value} {below : List Frame} {meth : Method} {c : Code} {H : Heap} {locs : List Loc} {cells slots : Nat} {Q : State → Prop} {pc : Nat} {ls : Array Slot} {rest : List Value} {x y : Int32} (e9 : x = y) (k : W p l e R s m args below meth c H locs cells slots Q (F0 m pc ls (.int y :: rest))) : W p l e R s m args below meth c H locs cells slots Q (F0 m pc ls (.int x :: rest)) := by
  rw [e9]
  exact k
theorem z_toplt2 {p : Program} {l : Launch} {e : Env} {R : Room} {s : State} {m : MethodId} {args : Array Value} {below : List Frame} {meth : Method} {c : Code} {H : Heap} {locs : List Loc} {cells slots : Nat} {Q : State → Prop} {pc : Nat} {ls : Array Slot} {rest : List Value} {x y : Int64} (e9 : x = y) (k : W p l e R s m args below meth c H locs cells slots Q (F0 m pc ls (.long y :: rest))) : W p l e R s m args below meth c H locs cells slots Q (F0 m pc ls (.long x :: rest)) := by
  rw [e9]
  exact k
/-- aboard: at most eight -/
def abOK (al : Nat → Nat → Int32) : Prop := ∀ i, i < 7 → ∃ a, al (10 + i) 2 = nI a ∧ a ≤ 8
theorem slideS_o {al : Nat → Nat → Int32} {i sh k : Nat} {g : Int32} (h1 : k ≠ 10 + i) (h2 : k ≠ 6 + sh) : slideS al i sh g k = al k := by
  unfold slideS
  split
  · rw [zup_o h1, zup_o h2, zup_o h1]
  · rw [zup_o h1]
theorem unloadS_o {al : Nat → Nat → Int32} {i sh k : Nat} (h1 : k ≠ 10 + i) (h3 : k ≠ 8 + sh) : unloadS al i sh k = al k := by
  unfold unloadS
  rw [zup_o h1, unlS_o h3]
theorem climbS_o {al : Nat → Nat → Int32} {i k : Nat} (h1 : k ≠ 10 + i) : climbS al i k = al k := by
  unfold climbS
  split
  · rw [zup_o h1, zup_o h1]
  · rw [zup_o h1]
theorem comeDownS_o {al : Nat → Nat → Int32} {i sh k : Nat} {g : Int32} (h1 : k ≠ 10 + i) (h2 : k ≠ 6 + sh) (h3 : k ≠ 8 + sh) : comeDownS al i sh g k = al k := by
  unfold comeDownS
  split
  · rw [zup_o h1, unloadS_o h1 h3, slideS_o h1 h2]
  · rw [slideS_o h1 h2]
theorem travelS_o {al : Nat → Nat → Int32} {i sh k : Nat} {g : Int32} (h1 : k ≠ 10 + i) (h2 : k ≠ 6 + sh) (h3 : k ≠ 8 + sh) : travelS al i sh g k = al k := by
  unfold travelS
  split
  · exact comeDownS_o h1 h2 h3
  · split
    · exact climbS_o h1
    · rfl
/-- the row of a sledge: aboard, height, course -/
def rowS (al : Nat → Nat → Int32) (i : Nat) : Int32 × Int32 × Int32 := (al (10 + i) 2, al (10 + i) 3, al (10 + i) 4)
/-- aboard behind the fall -/
def fallA (a g : Int32) : Int32 := if ¬ a ≤ 0 ∧ ¬ g ≤ 4 + 2 * a then a - 1 else a
def fallL (a g : Int32) : Int32 := if ¬ a ≤ 0 ∧ ¬ g ≤ 4 + 2 * a then 1 else 0
def dropH (a h g : Int32) : Int32 := zmx 0 (h - (4 - fallA a g / 3 + g / 2))
/-- an hour of a sledge's row -/
def trv (x : Int32 × Int32 × Int32) (g : Int32) : Int32 × Int32 × Int32 :=
  if x.2.2 = 1 then (if dropH x.1 x.2.1 g = 0 then (0, dropH x.1 x.2.1 g, 2) else (fallA x.1 g, dropH x.1 x.2.1 g, x.2.2))
  else if x.2.2 = 2 then (x.1, zmn 20 (x.2.1 + 5), if zmn 20 (x.2.1 + 5) = 20 then 0 else x.2.2)
  else x
theorem slideS_2 {al : Nat → Nat → Int32} {i sh : Nat} {g : Int32} (hsh : sh < 2) : slideS al i sh g (10 + i) 2 = fallA (al (10 + i) 2) g := by
  unfold slideS fallA
  split
  · rw [zup_k, up_n (by decide), zup_o (by omega), zup_k, up_s]
  · rw [zup_k, up_n (by decide)]
theorem slideS_3 {al : Nat → Nat → Int32} {i sh : Nat} {g : Int32} : slideS al i sh g (10 + i) 3 = dropH (al (10 + i) 2) (al (10 + i) 3) g := by
  unfold slideS dropH fallA
  split
  · rw [zup_k, up_s]
  · rw [zup_k, up_s]
theorem slideS_4 {al : Nat → Nat → Int32} {i sh : Nat} {g : Int32} (hsh : sh < 2) : slideS al i sh g (10 + i) 4 = al (10 + i) 4 := by
  unfold slideS
  split
  · rw [zup_k, up_n (by decide), zup_o (by omega), zup_k, up_n (by decide)]
  · rw [zup_k, up_n (by decide)]
theorem slideS_0 {al : Nat → Nat → Int32} {i sh : Nat} {g : Int32} (hsh : sh < 2) : slideS al i sh g (10 + i) 0 = al (10 + i) 0 := by
  unfold slideS
  split
  · rw [zup_k, up_n (by decide), zup_o (by omega), zup_k, up_n (by decide)]
  · rw [zup_k, up_n (by decide)]
theorem rowS_travel {al : Nat → Nat → Int32} {i sh : Nat} {g : Int32} (hsh : sh < 2) : rowS (travelS al i sh g) i = trv (rowS al i) g := by
  unfold travelS rowS trv
  dsimp only
  by_cases h1 : al (10 + i) 4 = 1
  · rw [if_pos h1, if_pos h1]
    unfold comeDownS
    rw [slideS_3]
    by_cases h0 : dropH (al (10 + i) 2) (al (10 + i) 3) g = 0
    · rw [if_pos h0, if_pos h0]
      unfold unloadS
      simp only [zup_k]
      rw [up_n (by decide), up_s, up_n (by decide), up_n (by decide), up_s, unlS_o (by omega), slideS_3]
    · rw [if_neg h0, if_neg h0, slideS_2 hsh, slideS_3, slideS_4 hsh]
  · rw [if_neg h1, if_neg h1]
    by_cases h2 : al (10 + i) 4 = 2
    · rw [if_pos h2, if_pos h2]
      unfold climbS
      by_cases h3 : zmn 20 (al (10 + i) 3 + 5) = 20
      · rw [if_pos h3, if_pos h3]
        simp only [zup_k]
        rw [up_n (by decide), up_n (by decide), up_n (by decide), up_s, up_s]
      · rw [if_neg h3, if_neg h3]
        simp only [zup_k]
        rw [up_n (by decide), up_s, up_n (by decide)]
    · rw [if_neg h2, if_neg h2]
theorem fallA_nI {x g : Int32} {a : Nat} (ha : x = nI a) (ha8 : a ≤ 8) : ∃ b, b ≤ a ∧ fallA x g = nI b := by
  unfold fallA
  split
  · rename_i h
    obtain ⟨q1, q2⟩ := z_pred ha ha8 h.1
    exact ⟨a - 1, by omega, q1⟩
  · exact ⟨a, Nat.le_refl a, ha⟩
theorem trv_ab {x : Int32 × Int32 × Int32} {g : Int32} {a : Nat} (ha : x.1 = nI a) (ha8 : a ≤ 8) : ∃ b, b ≤ a ∧ (trv x g).1 = nI b := by
  unfold trv
  split
  · split
    · exact ⟨0, Nat.zero_le _, rfl⟩
    · exact fallA_nI ha ha8
  · split
    · exact ⟨a, Nat.le_refl a, ha⟩
    · exact ⟨a, Nat.le_refl a, ha⟩
theorem travelS_ab {al : Nat → Nat → Int32} {i sh a : Nat} {g : Int32} (hsh : sh < 2) (ha : al (10 + i) 2 = nI a) (ha8 : a ≤ 8) : ∃ b, b ≤ a ∧ travelS al i sh g (10 + i) 2 = nI b := by
  have h := congrArg (fun z => z.1) (rowS_travel (al := al) (i := i) (g := g) hsh)
  obtain ⟨b, hb, e⟩ := trv_ab (x := rowS al i) (g := g) ha ha8
  exact ⟨b, hb, (show travelS al i sh g (10 + i) 2 = (trv (rowS al i) g).1 from h).trans e⟩
/-- the first j sledges go through an hour with the gust g -/
def travN (al : Nat → Nat → Int32) (sh : Nat) (g : Int32) : Nat → Nat → Nat → Int32
  | 0 => al
  | j + 1 => travelS (travN al sh g j) j sh g
theorem travN_o {al : Nat → Nat → Int32} {sh k : Nat} {g : Int32} (h2 : k ≠ 6 + sh) (h3 : k ≠ 8 + sh) : ∀ j, (∀ i, i < j → k ≠ 10 + i) → travN al sh g j k = al k
  | 0, _ => rfl
  | j + 1, h => by
    show travelS (travN al sh g j) j sh g k = al k
    rw [travelS_o (h j (Nat.lt_succ_self j)) h2 h3, travN_o h2 h3 j (fun i hi => h i (Nat.lt_succ_of_lt hi))]
/-- the sledge i goes alone, by the gusts g t of the hours t -/
def trvT (al : Nat → Nat → Int32) (i sh : Nat) (g : Nat → Int32) : Nat → Nat → Nat → Int32
  | 0 => al
  | t + 1 => travelS (trvT al i sh g t) i sh (g t)
theorem trvT_o {al : Nat → Nat → Int32} {i sh k : Nat} {g : Nat → Int32} (h1 : k ≠ 10 + i) (h2 : k ≠ 6 + sh) (h3 : k ≠ 8 + sh) : ∀ t, trvT al i sh g t k = al k
  | 0 => rfl
  | t + 1 => by
    show travelS (trvT al i sh g t) i sh (g t) k = al k
    rw [travelS_o h1 h2 h3, trvT_o h1 h2 h3 t]
theorem trvT_ab {al : Nat → Nat → Int32} {i sh a : Nat} {g : Nat → Int32} (hsh : sh < 2) (ha : al (10 + i) 2 = nI a) (ha8 : a ≤ 8) : ∀ t, ∃ b, b ≤ a ∧ trvT al i sh g t (10 + i) 2 = nI b
  | 0 => ⟨a, Nat.le_refl a, ha⟩
  | t + 1 => by
    obtain ⟨b, h1, h2⟩ := trvT_ab (g := g) hsh ha ha8 t
    obtain ⟨c, h3, h4⟩ := travelS_ab (g := g t) hsh h2 (by omega)
    exact ⟨c, by omega, h4⟩
def ix (x : Int32) : Nat := x.toNatClampNeg
theorem ix_nI {k : Nat} (h : k < 2 ^ 31) : ix (nI k) = k := nI_clamp h
/-- an hour of all -/
def hourS (al : Nat → Nat → Int32) : Nat → Nat → Int32 := zup (travN al 0 (al 3 (ix (al 0 8) % 8)) (ix (al 0 4))) 0 8 (al 0 8 + 1)
theorem becomeS_o {al : Nat → Nat → Int32} {i k q : Nat} (h1 : q ≠ 10 + i) (h2 : q ≠ 17 + i) : becomeS al i k q = al q := by
  unfold becomeS
  rw [zup_o h1, zup_o h1, zup_o h1, zset_o h2, zup_o h1]
theorem becomeS_2 {al : Nat → Nat → Int32} {i k : Nat} : becomeS al i k (10 + i) 2 = al (10 + k) 2 := by
  unfold becomeS
  rw [zup_k, up_n (by decide), zup_k, up_n (by decide), zup_k, up_s]
theorem becomeS_row {al : Nat → Nat → Int32} {i k : Nat} : rowS (becomeS al i k) i = rowS al k := by
  unfold rowS becomeS
  simp only [zup_k]
  rw [up_n (by decide), up_n (by decide), up_s, up_n (by decide), up_s, up_s]
