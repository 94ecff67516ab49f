/-! The law's hours. -/
def f1 (al : Nat → Nat → Int32) : Nat → Int32 := fun k => v_back al (nI k)
def f2 (al : Nat → Nat → Int32) : Nat → Int32 := fun k => v_arrives al (nI k)
def fT (al : Nat → Nat → Int32) : Nat → Nat → Int32 := fun i q => v_told al (nI i) (nI q)
theorem fT_1 {al : Nat → Nat → Int32} {i : Nat} (h : i < 6) : fT al i 1 = al (10 + i) 2 := by
  unfold fT v_told
  rw [ix_nI (show i < 2 ^ 31 by omega)]
  rfl
theorem fT_2 {al : Nat → Nat → Int32} {i : Nat} (h : i < 6) : fT al i 2 = al (10 + i) 3 := by
  unfold fT v_told
  rw [ix_nI (show i < 2 ^ 31 by omega)]
  rfl
theorem fT_3 {al : Nat → Nat → Int32} {i : Nat} (h : i < 6) : fT al i 3 = al (10 + i) 4 := by
  unfold fT v_told
  rw [ix_nI (show i < 2 ^ 31 by omega)]
  rfl
theorem sW_lt {cy ad : Nat → Nat} {N B k : Nat} {al be : Nat → Nat → Int32} {ex ex' : Nat → va_E} (h : k < 35 + 2 * N + B) : sW cy ad N B al be ex k = sW cy ad N B al be ex' k := by
  show cC cy ad al _ k = cC cy ad al _ k
  unfold cC exS
  rw [if_pos h, if_pos h]
theorem hr_end {D : va_G} {cy ad : Nat → Nat} {n n0 N B : Nat} {cl be : Nat → Nat → Int32} {ex ex' : Nat → va_E} {A : Nat → Prop} {H0 H : Heap} {locs : List Loc} (hn0 : n0 = 35 + 2 * N + B) (hn : n0 ≤ n) (e : AG cl be) (hN6 : N ≤ 6) (hB4 : B ≤ 4) (hW : WS D n ad (sW cy ad N B cl be ex) A H0 H locs) : WS D n0 ad (sW cy ad N B cl cl ex') A H0 H locs := by
  rw [← sW_AG (cl := cl) e hN6 hB4] at hW
  exact WS_re (fun k => k) (fun k hk => ⟨by omega, rfl, vpe_of (sW_lt (by omega))⟩) (fun _ _ _ _ e => e) hW
theorem wsP_0 {T : Nat → Nat → Int32} (i : Nat) : (fun _ => 0 : Nat → Int32) = wsP T 0 0 i := by
  unfold wsP
  rw [if_neg (Nat.not_lt_zero i)]
  split <;> exact pfx_0
theorem hr_start {D : va_G} {cy ad2 ad3 : Nat → Nat} {n0 N B : Nat} {cl be : Nat → Nat → Int32} {ex : Nat → va_E} {F1 F2 : Nat → Int32} {T : Nat → Nat → Int32} {A : Nat → Prop} {H0 H : Heap} {locs : List Loc} (hn0 : n0 = 35 + 2 * N + B) (hA : ∀ k, k < n0 + 2 → ad3 k = ad2 k)
    (hW : WS D (n0 + 2 + 1 + N) ad3 (fun k => if k < n0 + 2 then sW cy ad2 N B cl be (cen (cen ex n0 (.inl (cy 0, N, .inl (fun _ => 0)))) (n0 + 1) (.inl (cy 0, N, .inl (fun _ => 0)))) k else if k = n0 + 2 then .inl (cy 3, N, .inr (.inr (.inr (.inr (fun i => if i < N then some (ad3 (n0 + 2 + 1 + i)) else none))))) else .inl (cy 0, 6, .inl (fun _ => 0))) A H0 H locs) :
    WS D (n0 + 3 + N) ad3 (sW cy ad3 N B cl be (exH cy ad3 n0 N (pfx F1 0) (pfx F2 0) (wsP T 0 0) ex)) A H0 H locs := by
  refine WS_re (fun k => k) (fun k hk => ⟨by omega, rfl, ?_⟩) (fun _ _ _ _ e => e) hW
  show vpe (if k < n0 + 2 then _ else _) _
  by_cases h1 : k < n0 + 2
  · rw [if_pos h1]
    refine sW_vpe (fun j hj => hA j (by omega)) (fun h9 => ?_)
    rcases (show k = n0 ∨ k = n0 + 1 by omega) with rfl | rfl
    · rw [cen_o (by omega), cen_k, exH_b, ← pfx_0]
      exact vpe_rf
    · rw [cen_k, exH_a, ← pfx_0]
      exact vpe_rf
  · rw [if_neg h1]
    by_cases h2 : k = n0 + 2
    · subst h2
      rw [if_pos rfl, sW_x (by omega), exH_w]
      exact vpe_rf
    · rw [if_neg h2, sW_x (by omega)]
      obtain ⟨i, rfl⟩ : ∃ i, k = n0 + 3 + i := ⟨k - (n0 + 3), by omega⟩
      rw [exH_r (by omega), ← wsP_0]
      exact vpe_rf
theorem TI.hour {cl : Nat → Nat → Int32} {N B h : Nat} (I : Inv cl N B h) (hh3 : h < 2 ^ 29) : TI (hourS cl) := (I.hour (by omega)).2.2.1
theorem int_sub0 {x : Int32} : x - 0 = x := by
  rw [Int32.sub_eq_add_neg, Int32.neg_zero, Int32.add_zero]
theorem fall_y {a g : Int32} (h1 : ¬ a ≤ 0) (h2 : ¬ g ≤ 4 + 2 * a) : a - 1 = fallA a g := (if_pos ⟨h1, h2⟩).symm
theorem fall_n1 {a g : Int32} (h1 : a ≤ 0) : a - 0 = fallA a g := by
  rw [int_sub0]
  exact (if_neg (fun z => z.1 h1)).symm
theorem fall_n2 {a g : Int32} (h2 : g ≤ 4 + 2 * a) : a - 0 = fallA a g := by
  rw [int_sub0]
  exact (if_neg (fun z => z.2 h2)).symm
theorem land_1 {al : Nat → Nat → Int32} {j : Nat} {g : Int32} (h1 : al (10 + j) 4 = 1) : landA (rowS al j) g = if dropH (al (10 + j) 2) (al (10 + j) 3) g = 0 then fallA (al (10 + j) 2) g else 0 := by
  unfold landA
  rw [if_pos (show (rowS al j).2.2 = 1 from h1)]
  rfl
theorem land_n {al : Nat → Nat → Int32} {j : Nat} {g : Int32} (h1 : ¬ al (10 + j) 4 = 1) : landA (rowS al j) g = 0 := by
  unfold landA
  rw [if_neg (show ¬ (rowS al j).2.2 = 1 from h1)]
theorem drop_le {al : Nat → Nat → Int32} {N B h j : Nat} (I : Inv al N B h) (hj : j < N) (hz : ¬ dropH (al (10 + j) 2) (al (10 + j) 3) (al 3 (h % 8)) = 0) : ¬ dropH (al (10 + j) 2) (al (10 + j) 3) (al 3 (h % 8)) ≤ 0 := by
  obtain ⟨a, t, c, hk, ha, ht, hc⟩ := lf_rowK I hj
  obtain ⟨g, hg, hg9⟩ := I.2.2.2.2.1 (h % 8) (Nat.mod_lt _ (by decide))
  obtain ⟨b, d, hb, hd, e1, e2⟩ := dropH_nI ha ht hg9
  have ha2 : al (10 + j) 2 = nI a := hk.1
  have ht2 : al (10 + j) 3 = nI t := hk.2.1
  rw [ha2, ht2, hg, e2] at hz ⊢
  refine nI_nle ?_ (by omega)
  rcases Nat.eq_zero_or_pos (t - d) with q | q
  · rw [q] at hz
    exact absurd nI_0 hz
  · exact q
