/-! What the numbers say: trips, sums. -/
theorem sumI_congr {f g : Nat → Int32} : ∀ N, (∀ i, i < N → f i = g i) → sumI f N = sumI g N
  | 0, _ => rfl
  | N + 1, h => by
    show sumI f N + f N = sumI g N + g N
    rw [sumI_congr N (fun i hi => h i (by omega)), h N (by omega)]
theorem sumI_add {f g : Nat → Int32} : ∀ N, sumI (fun i => f i + g i) N = sumI f N + sumI g N
  | 0 => rfl
  | N + 1 => by
    show sumI (fun i => f i + g i) N + (f N + g N) = (sumI f N + f N) + (sumI g N + g N)
    rw [sumI_add N, Int32.add_assoc, Int32.add_assoc, ← Int32.add_assoc (sumI g N), ← Int32.add_assoc (f N), Int32.add_comm (sumI g N) (f N)]
theorem sumI_0 : ∀ N, sumI (fun _ => 0) N = 0
  | 0 => rfl
  | N + 1 => by
    show sumI (fun _ => 0) N + 0 = 0
    rw [sumI_0 N]
    rfl
theorem sumI_swap {f : Nat → Nat → Int32} {T : Nat} : ∀ N, sumI (fun i => sumI (fun t => f i t) T) N = sumI (fun t => sumI (fun i => f i t) N) T
  | 0 => (sumI_0 T).symm
  | N + 1 => by
    show sumI (fun i => sumI (fun t => f i t) T) N + sumI (fun t => f N t) T = sumI (fun t => sumI (fun i => f i t) N + f N t) T
    rw [sumI_swap N, ← sumI_add]
/-- a sledge's row, hour by hour -/
def itr (g : Nat → Int32) (x : Int32 × Int32 × Int32) : Nat → Int32 × Int32 × Int32
  | 0 => x
  | t + 1 => trv (itr g x t) (g t)
theorem trvT_row {al : Nat → Nat → Int32} {i sh : Nat} {g : Nat → Int32} (hsh : sh < 2) : ∀ t, rowS (trvT al i sh g t) i = itr g (rowS al i) t
  | 0 => rfl
  | t + 1 => by
    show rowS (travelS (trvT al i sh g t) i sh (g t)) i = trv (itr g (rowS al i) t) (g t)
    rw [rowS_travel hsh, trvT_row hsh t]
theorem hourN_itr {al : Nat → Nat → Int32} {N h i : Nat} (hN : al 0 4 = nI N) (hN6 : N ≤ 6) (hh : al 0 8 = nI h) (hh3 : h < 2 ^ 29) (hab : abOK al) (hi : i < N) : ∀ t, t < 2 ^ 29 → rowS (hourN al t) i = itr (gf al) (rowS al i) t
  | 0, _ => rfl
  | t + 1, ht => by
    rw [hourN_row hN hN6 hh hh3 hab hi t (by omega), hourN_itr hN hN6 hh hh3 hab hi t (by omega)]
    rfl
/-- sacks that come to the beach in an hour; sacks that fall -/
def landA (x : Int32 × Int32 × Int32) (g : Int32) : Int32 := if x.2.2 = 1 then (if dropH x.1 x.2.1 g = 0 then fallA x.1 g else 0) else 0
def lossA (x : Int32 × Int32 × Int32) (g : Int32) : Int32 := if x.2.2 = 1 then fallL x.1 g else 0
def ashN (sh : Nat) (st : Nat → Nat → Int32) : Int32 := (st (8 + sh) 0 + st (8 + sh) 1) + st (8 + sh) 2
theorem ash_unl {al : Nat → Nat → Int32} {i sh : Nat} : ∀ m, ashN sh (unlS al i sh m) = ashN sh al + nI m
  | 0 => (Int32.add_zero _).symm
  | m + 1 => by
    have ih := ash_unl (al := al) (i := i) (sh := sh) m
    show ashN sh (zup (unlS al i sh m) (8 + sh) (knN (al (17 + i) m)) (unlS al i sh m (8 + sh) (knN (al (17 + i) m)) + 1)) = _
    rw [← nI_1, ← Int32.add_assoc, ← ih]
    unfold ashN
    rw [zup_k]
    rcases (show knN (al (17 + i) m) = 0 ∨ knN (al (17 + i) m) = 1 ∨ knN (al (17 + i) m) = 2 by have := knN_lt (al (17 + i) m); omega) with e | e | e
    · rw [e, up_s, up_n (by decide), up_n (by decide), Int32.add_assoc, Int32.add_assoc, Int32.add_assoc, Int32.add_assoc, Int32.add_comm 1, Int32.add_assoc]
    · rw [e, up_s, up_n (by decide), up_n (by decide), ← Int32.add_assoc, Int32.add_assoc _ 1, Int32.add_comm 1, ← Int32.add_assoc]
    · rw [e, up_s, up_n (by decide), up_n (by decide), ← Int32.add_assoc]
theorem ash_travel {al : Nat → Nat → Int32} {i sh a : Nat} {g : Int32} (hi : i < 7) (hsh : sh < 2) (ha : al (10 + i) 2 = nI a) (ha8 : a ≤ 8) : ashN sh (travelS al i sh g) = ashN sh al + landA (rowS al i) g := by
  unfold travelS landA
  have hs : ashN sh (slideS al i sh g) = ashN sh al := by
    unfold ashN
    rw [slideS_o (by omega) (by omega)]
  by_cases h1 : al (10 + i) 4 = 1
  · rw [if_pos h1, if_pos (show (rowS al i).2.2 = 1 from h1)]
    unfold comeDownS
    rw [slideS_3]
    show _ = ashN sh al + if dropH (al (10 + i) 2) (al (10 + i) 3) g = 0 then fallA (al (10 + i) 2) g else 0
    by_cases h0 : dropH (al (10 + i) 2) (al (10 + i) 3) g = 0
    · rw [if_pos h0, if_pos h0]
      obtain ⟨b, hb, e⟩ := fallA_nI (g := g) ha ha8
      have e1 : ashN sh (zup (unloadS (slideS al i sh g) i sh) (10 + i) 4 2) = ashN sh (unlS (slideS al i sh g) i sh b) := by
        unfold ashN
        rw [zup_o (by omega)]
        unfold unloadS
        rw [slideS_2 hsh, e, nI_clamp (by omega), zup_o (by omega)]
      rw [e1, ash_unl, hs, e]
    · rw [if_neg h0, if_neg h0, hs, Int32.add_zero]
  · rw [if_neg h1, if_neg (show ¬ (rowS al i).2.2 = 1 from h1), Int32.add_zero]
    by_cases h2 : al (10 + i) 4 = 2
    · rw [if_pos h2]
      unfold ashN
      rw [climbS_o (by omega)]
    · rw [if_neg h2]
theorem loss_travel {al : Nat → Nat → Int32} {i sh : Nat} {g : Int32} (hi : i < 7) (hsh : sh < 2) : travelS al i sh g (6 + sh) 1 = al (6 + sh) 1 + lossA (rowS al i) g := by
  have hs : slideS al i sh g (6 + sh) 1 = al (6 + sh) 1 + fallL (al (10 + i) 2) g := by
    unfold slideS fallL
    by_cases h : ¬ al (10 + i) 2 ≤ 0 ∧ ¬ g ≤ 4 + 2 * al (10 + i) 2
    · rw [if_pos h, if_pos h, zup_o (by omega), zup_k, up_s]
    · rw [if_neg h, if_neg h, zup_o (by omega), Int32.add_zero]
  unfold travelS lossA
  by_cases h1 : al (10 + i) 4 = 1
  · rw [if_pos h1, if_pos (show (rowS al i).2.2 = 1 from h1)]
    unfold comeDownS
    split
    · rw [zup_o (by omega), unloadS_o (by omega) (by omega)]
      exact hs
    · exact hs
  · rw [if_neg h1, if_neg (show ¬ (rowS al i).2.2 = 1 from h1), Int32.add_zero]
    by_cases h2 : al (10 + i) 4 = 2
    · rw [if_pos h2, climbS_o (by omega)]
    · rw [if_neg h2]
/-- a number of a state that grows by a sledge's row -/
def Grow (sh : Nat) (F : (Nat → Nat → Int32) → Int32) (d : Int32 × Int32 × Int32 → Int32 → Int32) : Prop := ∀ (al : Nat → Nat → Int32) (i a : Nat) (g : Int32), i < 7 → al (10 + i) 2 = nI a → a ≤ 8 → F (travelS al i sh g) = F al + d (rowS al i) g
theorem grow_ash {sh : Nat} (h : sh < 2) : Grow sh (ashN sh) landA := fun _ _ _ _ hi ha ha8 => ash_travel hi h ha ha8
theorem grow_loss {sh : Nat} (h : sh < 2) : Grow sh (fun st => st (6 + sh) 1) lossA := fun _ _ _ _ hi _ _ => loss_travel hi h
theorem grow_T {sh : Nat} (hsh : sh < 2) {F : (Nat → Nat → Int32) → Int32} {d : Int32 × Int32 × Int32 → Int32 → Int32} (hF : Grow sh F d) {al : Nat → Nat → Int32} {i a : Nat} {g : Nat → Int32} (hi : i < 7) (ha : al (10 + i) 2 = nI a) (ha8 : a ≤ 8) : ∀ T, F (trvT al i sh g T) = F al + sumI (fun t => d (itr g (rowS al i) t) (g t)) T
  | 0 => (Int32.add_zero _).symm
  | T + 1 => by
    obtain ⟨b, h1, h2⟩ := trvT_ab (g := g) hsh ha ha8 T
    show F (travelS (trvT al i sh g T) i sh (g T)) = F al + (sumI (fun t => d (itr g (rowS al i) t) (g t)) T + d (itr g (rowS al i) T) (g T))
    rw [hF _ i b (g T) hi h2 (by omega), grow_T hsh hF hi ha ha8 T, trvT_row hsh, Int32.add_assoc]
theorem travN_ab {al : Nat → Nat → Int32} {g : Int32} {i a : Nat} (ha : al (10 + i) 2 = nI a) : ∀ j, j ≤ i → travN al 0 g j (10 + i) 2 = nI a := fun j hj => (congrFun (travN_o (by omega) (by omega) j (fun q hq => by omega)) 2).trans ha
theorem grow_N {F : (Nat → Nat → Int32) → Int32} {d : Int32 × Int32 × Int32 → Int32 → Int32} (hF : Grow 0 F d) {al : Nat → Nat → Int32} {g : Int32} (hab : abOK al) : ∀ j, j ≤ 6 → F (travN al 0 g j) = F al + sumI (fun i => d (rowS al i) g) j
  | 0, _ => (Int32.add_zero _).symm
  | j + 1, hj => by
    obtain ⟨a, ha, ha8⟩ := hab j (by omega)
    show F (travelS (travN al 0 g j) j 0 g) = F al + (sumI (fun i => d (rowS al i) g) j + d (rowS al j) g)
    have er : rowS (travN al 0 g j) j = rowS al j := by
      unfold rowS
      rw [travN_o (by omega) (by omega) j (fun q hq => by omega)]
    rw [hF _ j a g (by omega) (travN_ab ha j (Nat.le_refl j)) ha8, grow_N hF hab j (by omega), er, Int32.add_assoc]
theorem grow_H {F : (Nat → Nat → Int32) → Int32} {d : Int32 × Int32 × Int32 → Int32 → Int32} (hF : Grow 0 F d) (h0 : ∀ al v, F (zup al 0 8 v) = F al) {al : Nat → Nat → Int32} {N h : Nat} (hN : al 0 4 = nI N) (hN6 : N ≤ 6) (hh : al 0 8 = nI h) (hh3 : h < 2 ^ 29) (hab : abOK al) : ∀ T, T < 2 ^ 29 → F (hourN al T) = F al + sumI (fun t => sumI (fun i => d (itr (gf al) (rowS al i) t) (gf al t)) N) T
  | 0, _ => (Int32.add_zero _).symm
  | T + 1, hT => by
    obtain ⟨i1, i2, i3⟩ := hourN_inv hN hN6 hh hab T
    show F (hourS (hourN al T)) = F al + (sumI (fun t => sumI (fun i => d (itr (gf al) (rowS al i) t) (gf al t)) N) T + sumI (fun i => d (itr (gf al) (rowS al i) T) (gf al T)) N)
    have eg : hourN al T 3 (ix (hourN al T 0 8) % 8) = gf al T := by rw [i2, ix_nI (show h + T < 2 ^ 31 by omega), hourN_o hN hN6 hh hab (by decide) (by decide) (by decide) (by omega) T, gf_eq hh (by omega)]
    unfold hourS
    rw [h0, eg, i1, ix_nI (show N < 2 ^ 31 by omega), grow_N hF i3 N hN6, grow_H hF h0 hN hN6 hh hh3 hab T (by omega), Int32.add_assoc]
    refine congrArg (fun z => F al + (_ + z)) (sumI_congr N (fun i hi => ?_))
    rw [hourN_itr hN hN6 hh hh3 hab hi T (by omega)]
theorem forN_row {al : Nat → Nat → Int32} {T i : Nat} (hi : i < 6) : rowS (becomeS (forN al T i) 6 i) 6 = rowS al i := by
  rw [becomeS_row]
  unfold rowS
  rw [forN_o (by omega) (by omega) (by omega) (by omega) i]
theorem grow_F {F : (Nat → Nat → Int32) → Int32} {d : Int32 × Int32 × Int32 → Int32 → Int32} (hF : Grow 1 F d) (hb : ∀ al k, F (becomeS al 6 k) = F al) {al : Nat → Nat → Int32} (hab : abOK al) {T : Nat} : ∀ N, N ≤ 6 → F (forN al T N) = F (becomeH al 1 0) + sumI (fun i => sumI (fun t => d (itr (gf al) (rowS al i) t) (gf al t)) T) N
  | 0, _ => (Int32.add_zero _).symm
  | N + 1, hN => by
    obtain ⟨a, ha, ha8⟩ := hab N (by omega)
    show F (trvT (becomeS (forN al T N) 6 N) 6 1 (gf al) T) = F (becomeH al 1 0) + (sumI (fun i => sumI (fun t => d (itr (gf al) (rowS al i) t) (gf al t)) T) N + sumI (fun t => d (itr (gf al) (rowS al N) t) (gf al t)) T)
    have e2 : becomeS (forN al T N) 6 N (10 + 6) 2 = nI a := becomeS_2.trans ((congrFun (forN_o (by omega) (by omega) (by omega) (by omega) N) 2).trans ha)
    rw [grow_T (by decide) hF (by decide) e2 ha8 T, forN_row (by omega), hb, grow_F hF hb hab N (by omega), Int32.add_assoc]
/-- what is seen ahead is what will be -/
theorem see_ahead {al : Nat → Nat → Int32} {N h : Nat} (hN : al 0 4 = nI N) (hN6 : N ≤ 6) (hh : al 0 8 = nI h) (hh3 : h < 2 ^ 29) (hab : abOK al) (T q : Nat) (hT : T < 61) (h5 : 5 ≤ q) (h8 : q < 8) : v_foresee al (nI T) (nI q) = v_count (hourN al T) (nI q) := by
  obtain ⟨i1, i2, i3⟩ := hourN_inv hN hN6 hh hab T
  unfold v_foresee v_count
  rw [hN, i1, ix_nI (show N < 2 ^ 31 by omega), ix_nI (show T < 2 ^ 31 by omega)]
  rcases (show q = 5 ∨ q = 6 ∨ q = 7 by omega) with rfl | rfl | rfl
  · rw [if_pos (by decide), if_neg (by decide), if_neg (by decide), if_neg (by decide), if_neg (by decide), if_neg (by decide), if_pos (by decide)]
    refine sumI_congr N (fun i hi => ?_)
    have e1 : rowS (forN al T (i + 1)) 6 = itr (gf al) (rowS al i) T := by
      show rowS (trvT (becomeS (forN al T i) 6 i) 6 1 (gf al) T) 6 = _
      rw [trvT_row (by decide), forN_row (by omega)]
    have e2 := hourN_itr hN hN6 hh hh3 hab hi T (by omega)
    exact (congrArg (fun z => z.1) e1).trans (congrArg (fun z => z.1) e2).symm
  · rw [if_neg (by decide), if_pos (by decide), if_neg (by decide), if_neg (by decide), if_neg (by decide), if_neg (by decide), if_neg (by decide), if_neg (by decide), if_pos (by decide)]
    show ashN 1 (forN al T N) = ashN 0 (hourN al T)
    rw [grow_F (grow_ash (by decide)) (fun st k => by unfold ashN; rw [becomeS_o (by decide) (by decide)]) hab N hN6, grow_H (grow_ash (by decide)) (fun st v => by unfold ashN; rw [zup_o (by decide)]) hN hN6 hh hh3 hab T (by omega), sumI_swap]
    refine congrArg (fun z => z + _) ?_
    unfold ashN becomeH
    rw [zup_o (by decide), zset_k, pk_cpy_in (by decide) (by decide), pk_cpy_in (by decide) (by decide), pk_cpy_in (by decide) (by decide)]
  · rw [if_neg (by decide), if_neg (by decide), if_neg (by decide), if_neg (by decide), if_neg (by decide), if_neg (by decide), if_neg (by decide), if_neg (by decide), if_neg (by decide), if_pos (by decide)]
    have e1 := grow_F (grow_loss (sh := 1) (by decide)) (fun st k => by rw [becomeS_o (by decide) (by decide)]) hab (T := T) N hN6
    have e2 := grow_H (grow_loss (sh := 0) (by decide)) (fun st v => by rw [zup_o (by decide)]) hN hN6 hh hh3 hab T (by omega)
    refine e1.trans (Eq.trans ?_ e2.symm)
    rw [sumI_swap]
    refine congrArg (fun z => z + _) ?_
    unfold becomeH
    rw [zup_k, up_s]
