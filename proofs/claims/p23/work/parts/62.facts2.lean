/-! What the law compares: answers of states that agree, boats, and the rows of an hour. -/
section AGV
variable {al be : Nat → Nat → Int32} {N B h i : Nat}
theorem ag_told (e : AG al be) (hi : i < 6) (q : Int32) : v_told al (nI i) q = v_told be (nI i) q := by
  unfold v_told
  rw [ix_nI (show i < 2 ^ 31 by omega), e (10 + i) (by omega) (by omega) (by omega) (by omega), e (17 + i) (by omega) (by omega) (by omega) (by omega)]
theorem ag_count (e : AG al be) (hN : be 0 4 = nI N) (hN6 : N ≤ 6) (q : Int32) : v_count al q = v_count be q := by
  have hs : sumI (fun i => al (10 + i) 2) N = sumI (fun i => be (10 + i) 2) N := sumI_congr N (fun i hi => by rw [e (10 + i) (by omega) (by omega) (by omega) (by omega)])
  unfold v_count
  rw [e 0 (by omega) (by omega) (by omega) (by omega), e 1 (by omega) (by omega) (by omega) (by omega), e 3 (by omega) (by omega) (by omega) (by omega), e (8 + 0) (by omega) (by omega) (by omega) (by omega), e (6 + 0) (by omega) (by omega) (by omega) (by omega), hN, ix_nI (show N < 2 ^ 31 by omega), hs]
theorem ag_back (e : AG al be) (hi : i < 6) : v_back al (nI i) = v_back be (nI i) := by
  rw [v_back_nI hi, v_back_nI hi, e.gf, e.row hi]
theorem ag_arr (e : AG al be) (I : Inv al N B h) (I' : Inv be N B h) (hi : i < N) : v_arrives al (nI i) = v_arrives be (nI i) := by
  have h6 := I.1.2.1
  rw [v_arr I hi, v_arr I' hi, e.gf, e (10 + i) (by omega) (by omega) (by omega) (by omega)]
theorem ag_ash (e : AG al be) : ash al = ash be := by
  unfold ash
  rw [e (8 + 0) (by omega) (by omega) (by omega) (by omega)]
theorem ag_pass (e : AG al be) (hN : be 0 4 = nI N) (hN6 : N ≤ 6) : ash (hourS al) - ash al = ash (hourS be) - ash be := by
  rw [ag_ash e, ag_ash (e.hour hN hN6)]
theorem ag_see (e : AG al be) (I : Inv al N B h) (hN : be 0 4 = nI N) (hh3 : h < 2 ^ 29) (q : Nat) (h5 : 5 ≤ q) (h8 : q < 8) : v_foresee al 1 (nI q) = v_count (hourS be) (nI q) := by
  have h9 := see_ahead I.1.1 I.1.2.1 I.1.2.2.2.2 hh3 I.ab 1 q (by omega) h5 h8
  refine (show v_foresee al 1 (nI q) = v_foresee al (nI 1) (nI q) from rfl).trans (h9.trans ?_)
  have e1 : AG (hourN al 1) (hourS be) := e.hour hN I.1.2.1
  have hN1 : hourS be 0 4 = nI N := by rw [hourS_0, up_n (by decide)]; exact hN
  exact ag_count e1 hN1 I.1.2.1 (nI q)
theorem AG.bt (e : AG al be) {B b : Nat} (hb : b < 4) (h : BT be B b) : BT al B b := h.congr (e (24 + b) (by omega) (by omega) (by omega) (by omega))
theorem AG.invT (e : AG al be) (ht : TI al) (I : InvT be N B h) : InvT al N B h :=
  ⟨AG.inv I.1 e ht, fun b hb => e.bt hb (I.2.1 b hb), fun i hi h4 => by rw [e.at hi] at h4 ⊢; exact I.2.2 i hi h4⟩
theorem k0_off {y : Int32} (hN : al 0 4 = nI N) (hN6 : N ≤ 6) (hi : i < N) : ¬ ¬ (¬ nI i < 0 ∧ ¬ al 0 4 ≤ nI i) := fun z => z (by rw [hN]; exact nI_off hi (by omega))
theorem k0_back (I : Inv al N B h) (hi : i < N) : k_back al (nI i) = 0 := if_neg (k0_off (y := 0) I.1.1 I.1.2.1 hi)
theorem k0_arrives (I : Inv al N B h) (hi : i < N) : k_arrives al (nI i) = 0 := if_neg (k0_off (y := 0) I.1.1 I.1.2.1 hi)
theorem k0_foresee {q : Nat} (h5 : 5 ≤ q) (h7 : q ≤ 7) : k_foresee al 1 (nI q) = 0 := by
  unfold k_foresee
  rw [if_neg (fun z => z (zin_nI (a := 1) (lo := 1) (hi := 60) (by omega) (by omega) (by decide))), if_neg (fun z => z (zin_nI (lo := 5) (hi := 7) h5 h7 (by decide)))]
theorem k0_advise {b q : Nat} (hB : al 0 6 = nI B) (hB4 : B ≤ 4) (hb : b < B) (hq : q < 3) : k_advise al (nI b) (nI q) = 0 := by
  unfold k_advise
  rw [hB, if_neg (fun z => z (nI_off hb (by omega))), if_neg (fun z => z (zin_nI (lo := 0) (hi := 2) (by omega) (by omega) (by decide)))]
theorem st_back (I : Inv al N B h) (hi : i < N) : TI (u_back al (nI i)) ∧ AG (u_back al (nI i)) al := by
  obtain ⟨_, _, _, h1, -⟩ := io_back I (nI i)
  rw [if_pos (k0_back I hi)] at h1
  exact ⟨h1.2.2.1, fun k a b c d => back_o a b c d⟩
theorem st_arrives (I : Inv al N B h) (hi : i < N) : TI (u_arrives al (nI i)) ∧ AG (u_arrives al (nI i)) al := by
  obtain ⟨_, _, _, h1, -⟩ := io_arrives I (nI i)
  rw [if_pos (k0_arrives I hi)] at h1
  exact ⟨h1.2.2.1, fun k a b c d => arrives_o a b c d⟩
theorem st_foresee (I : Inv al N B h) {q : Nat} (h5 : 5 ≤ q) (h7 : q ≤ 7) : TI (u_foresee al 1 (nI q)) ∧ AG (u_foresee al 1 (nI q)) al := by
  obtain ⟨_, _, _, h1, -⟩ := io_foresee I 1 (nI q)
  rw [if_pos (k0_foresee h5 h7)] at h1
  exact ⟨h1.2.2.1, fun k a b c d => foresee_o a b c d⟩
end AGV
/-- boats -/
theorem zab_nI {F A : Nat} (hF : F < 2 ^ 30) (hA : A < 2 ^ 30) : ∃ d, zab (nI F - nI A) = nI d ∧ d ≤ F + A := by
  have e1 := pk_sub_toInt hF hA
  unfold zab
  by_cases h : A ≤ F
  · rw [if_pos (by rw [i32_le, e1, Int32.toInt_zero]; omega), pk_sub h]
    exact ⟨F - A, rfl, by omega⟩
  · rw [if_neg (by rw [i32_le, e1, Int32.toInt_zero]; omega), Int32.zero_sub, Int32.neg_sub, pk_sub (by omega)]
    exact ⟨A - F, rfl, by omega⟩
theorem adv_iff {f a w : Nat} (hf : f ≤ 2000) (ha : a ≤ 2000) (hw : w ≤ 100) : dep (nI f) (nI a + nI w) < dep (nI f + nI w) (nI a) ↔ zab ((nI f - nI w) - nI a) / 40 < zab ((nI f + nI w) - nI a) / 40 := by
  have e1 : nI f - (nI a + nI w) = (nI f - nI w) - nI a := by
    simp only [Int32.sub_eq_add_neg, Int32.neg_add]
    ac_rfl
  have e2 : nI f + (nI a + nI w) = (nI f + nI w) + nI a := by ac_rfl
  unfold dep
  rw [e2, ← e1]
  obtain ⟨x, hx, hx9⟩ := zab_nI (F := f) (A := a + w) (by omega) (by omega)
  obtain ⟨y, hy, hy9⟩ := zab_nI (F := f + w) (A := a) (by omega) (by omega)
  rw [← nI_add a w] at hx
  rw [nI_add, nI_add, hx, hy, show (50 : Int32) = nI 50 from rfl, show (40 : Int32) = nI 40 from rfl, pk_div (by omega) (by decide) (by decide), pk_div (by omega) (by decide) (by decide), pk_div (by omega) (by decide) (by decide), nI_add, nI_add, nI_ltI (by omega) (by omega), nI_ltI (by omega) (by omega)]
  omega
theorem can_eq {F A : Nat} (hF : F < 2 ^ 30) (hA : A < 2 ^ 30) : (¬ 20 < dep (nI F) (nI A) ∧ zIn (nI F - nI A) (-100) 100) ↔ (¬ 20 < dep (nI F) (nI A) ∧ ¬ 100 < zab (nI F - nI A)) := by
  have e1 := pk_sub_toInt hF hA
  have a4 : ((-100 : Int32)).toInt = -100 := by decide
  have a5 : ((100 : Int32)).toInt = 100 := by decide
  have hz : (zab (nI F - nI A)).toInt = if A ≤ F then (F : Int) - A else (A : Int) - F := by
    unfold zab
    by_cases h : A ≤ F
    · rw [if_pos (by rw [i32_le, e1, Int32.toInt_zero]; omega), if_pos h, e1]
    · rw [if_neg (by rw [i32_le, e1, Int32.toInt_zero]; omega), if_neg h, Int32.zero_sub, Int32.neg_sub, pk_sub_toInt hA hF]
  unfold zIn
  rw [i32_lt (x := nI F - nI A), i32_lt (x := 100) (y := nI F - nI A), i32_lt (x := 100) (y := zab _), hz, e1, a4, a5]
  refine and_congr Iff.rfl ?_
  by_cases h : A ≤ F
  · rw [if_pos h]
    omega
  · rw [if_neg h]
    omega
theorem vb_eq {al : Nat → Nat → Int32} {b : Nat} (hb : b < 4) : v_boat al (nI b) (nI 0) = al (24 + b) 0 ∧ v_boat al (nI b) (nI 1) = al (24 + b) 1 ∧ v_boat al (nI b) (nI 2) = al (24 + b) 2 ∧ v_boat al (nI b) (nI 3) = al (24 + b) 1 - al (24 + b) 2 ∧ v_boat al (nI b) (nI 4) = dep (al (24 + b) 1) (al (24 + b) 2) ∧ v_boat al (nI b) (nI 6) = ((al (24 + b) 0 - al (24 + b) 1) - al (24 + b) 2) := by
  unfold v_boat
  rw [ix_nI (show b < 2 ^ 31 by omega)]
  exact ⟨rfl, rfl, rfl, rfl, rfl, rfl⟩
theorem vb_5 {al : Nat → Nat → Int32} {B b : Nat} (hb : b < 4) (hB : b < B) (hbt : BT al B b) : (¬ 20 < dep (al (24 + b) 1) (al (24 + b) 2) → ¬ 100 < zab (al (24 + b) 1 - al (24 + b) 2) → v_boat al (nI b) (nI 5) = 1) ∧ (20 < dep (al (24 + b) 1) (al (24 + b) 2) → v_boat al (nI b) (nI 5) = 0) ∧ (100 < zab (al (24 + b) 1 - al (24 + b) 2) → v_boat al (nI b) (nI 5) = 0) := by
  obtain ⟨L, f, t, h1, h2, h3, h4, h5⟩ := hbt
  have h8 := h4 hB
  have hc := can_eq (F := 10 * f) (A := 10 * t) (by omega) (by omega)
  have e5 : v_boat al (nI b) (nI 5) = if (¬ 20 < dep (al (24 + b) 1) (al (24 + b) 2) ∧ zIn (al (24 + b) 1 - al (24 + b) 2) (-100) 100) then 1 else 0 := by
    unfold v_boat
    rw [ix_nI (show b < 2 ^ 31 by omega)]
    rfl
  rw [e5, h2, h3]
  refine ⟨fun q1 q2 => if_pos (hc.mpr ⟨q1, q2⟩), fun q1 => if_neg (fun z => z.1 q1), fun q1 => if_neg (fun z => (hc.mp z).2 q1)⟩
theorem vb_ok {al : Nat → Nat → Int32} {B b : Nat} (hB : b < B) (hbt : BT al B b) : ¬ ((al (24 + b) 0 - al (24 + b) 1) - al (24 + b) 2) < 0 ∧ al (24 + b) 1 - al (24 + b) 1 / 10 * 10 = 0 ∧ al (24 + b) 2 - al (24 + b) 2 / 10 * 10 = 0 := by
  obtain ⟨L, f, t, h1, h2, h3, h4, h5⟩ := hbt
  have h8 := h4 hB
  rw [h1, h2, h3, pk_sub (by omega), pk_sub (by omega), show (10 : Int32) = nI 10 from rfl, pk_rem (by omega) (by decide) (by decide), pk_rem (by omega) (by decide) (by decide)]
  refine ⟨nI_pos (by omega), ?_, ?_⟩
  · rw [show 10 * f % 10 = 0 by omega]; rfl
  · rw [show 10 * t % 10 = 0 by omega]; rfl
/-- what is advised: nothing just where it is too much; otherwise the side by which the trim is no more -/
theorem adv_eq {al : Nat → Nat → Int32} {B b w : Nat} {k : Int32} (hb : b < 4) (hB : b < B) (hbt : BT al B b) (hw : stw k = nI w) (hw9 : w ≤ 100) : (¬ nI w ≤ ((al (24 + b) 0 - al (24 + b) 1) - al (24 + b) 2) ∧ v_advise al (nI b) k = 0) ∨ (nI w ≤ ((al (24 + b) 0 - al (24 + b) 1) - al (24 + b) 2) ∧ ¬ zab ((al (24 + b) 1 - nI w) - al (24 + b) 2) / 40 < zab ((al (24 + b) 1 + nI w) - al (24 + b) 2) / 40 ∧ v_advise al (nI b) k = 1) ∨ (nI w ≤ ((al (24 + b) 0 - al (24 + b) 1) - al (24 + b) 2) ∧ zab ((al (24 + b) 1 - nI w) - al (24 + b) 2) / 40 < zab ((al (24 + b) 1 + nI w) - al (24 + b) 2) / 40 ∧ v_advise al (nI b) k = 2) := by
  obtain ⟨L, f, t, h1, h2, h3, h4, h5⟩ := hbt
  have h8 := h4 hB
  have hi := adv_iff (f := 10 * f) (a := 10 * t) (w := w) (by omega) (by omega) hw9
  have ev : v_advise al (nI b) k = if nI w ≤ ((al (24 + b) 0 - al (24 + b) 1) - al (24 + b) 2) then (if dep (al (24 + b) 1) (al (24 + b) 2 + nI w) < dep (al (24 + b) 1 + nI w) (al (24 + b) 2) then 2 else 1) else 0 := by
    unfold v_advise
    rw [ix_nI (show b < 2 ^ 31 by omega), hw]
  rw [ev]
  by_cases c1 : nI w ≤ ((al (24 + b) 0 - al (24 + b) 1) - al (24 + b) 2)
  · right
    rw [if_pos c1]
    rw [← h2, ← h3] at hi
    by_cases c2 : dep (al (24 + b) 1) (al (24 + b) 2 + nI w) < dep (al (24 + b) 1 + nI w) (al (24 + b) 2)
    · right
      exact ⟨c1, hi.mp c2, if_pos c2⟩
    · left
      exact ⟨c1, fun z => c2 (hi.mpr z), if_neg c2⟩
  · left
    exact ⟨c1, if_neg c1⟩
/-- the rows of an hour: when back, how many arrive, what was told -/
def pfx (F : Nat → Int32) (j : Nat) : Nat → Int32 := fun q => if q < j then F q else 0
theorem pfx_0 {F : Nat → Int32} : (fun _ => 0 : Nat → Int32) = pfx F 0 := funext fun q => (if_neg (Nat.not_lt_zero q)).symm
theorem pfx_s {F : Nat → Int32} {j : Nat} : upd (pfx F j) j (F j) = pfx F (j + 1) := by
  funext q
  by_cases e : q = j
  · subst e
    rw [up_s]
    exact (if_pos (Nat.lt_succ_self q)).symm
  · rw [up_n e]
    unfold pfx
    by_cases h : q < j
    · rw [if_pos h, if_pos (by omega)]
    · rw [if_neg h, if_neg (by omega)]
theorem pfx_at {F : Nat → Int32} {j q : Nat} (h : q < j) : pfx F j q = F q := if_pos h
def wsP (T : Nat → Nat → Int32) (j q : Nat) : Nat → Nat → Int32 := fun i => if i < j then pfx (T i) 6 else if i = j then pfx (T i) q else pfx (T i) 0
theorem wsP_s {T : Nat → Nat → Int32} {j : Nat} : wsP T j 6 = wsP T (j + 1) 0 := by
  funext i
  unfold wsP
  by_cases h : i < j
  · rw [if_pos h, if_pos (by omega)]
  · rw [if_neg h]
    by_cases e : i = j
    · rw [if_pos e, if_pos (by omega)]
    · rw [if_neg e, if_neg (by omega)]
      by_cases e2 : i = j + 1
      · rw [if_pos e2]
      · rw [if_neg e2]
theorem wsP_j {T : Nat → Nat → Int32} {j q : Nat} : wsP T j q j = pfx (T j) q := by
  unfold wsP
  rw [if_neg (Nat.lt_irrefl j), if_pos rfl]
theorem wsP_lt {T : Nat → Nat → Int32} {i j q : Nat} (h : i < j) : wsP T j q i = pfx (T i) 6 := if_pos h
theorem wsP_u {T : Nat → Nat → Int32} {j q i : Nat} (h : i ≠ j) : wsP T j q i = wsP T j (q + 1) i := by
  unfold wsP
  rw [if_neg h, if_neg h]
def exH (cy a0 : Nat → Nat) (n N : Nat) (F1 F2 : Nat → Int32) (T : Nat → Nat → Int32) (ex : Nat → va_E) : Nat → va_E := fun k =>
  if k = n then .inl (cy 0, N, .inl F1) else if k = n + 1 then .inl (cy 0, N, .inl F2) else if k = n + 2 then .inl (cy 3, N, .inr (.inr (.inr (.inr (fun i => if i < N then some (a0 (n + 3 + i)) else none))))) else if n + 3 ≤ k ∧ k < n + 3 + N then .inl (cy 0, 6, .inl (T (k - (n + 3)))) else ex k
section EH
variable {cy a0 : Nat → Nat} {n N : Nat} {F1 F2 : Nat → Int32} {T : Nat → Nat → Int32} {ex : Nat → va_E}
theorem exH_b : exH cy a0 n N F1 F2 T ex n = .inl (cy 0, N, .inl F1) := if_pos rfl
theorem exH_a : exH cy a0 n N F1 F2 T ex (n + 1) = .inl (cy 0, N, .inl F2) := by
  unfold exH
  rw [if_neg (by omega), if_pos rfl]
theorem exH_w : exH cy a0 n N F1 F2 T ex (n + 2) = .inl (cy 3, N, .inr (.inr (.inr (.inr (fun i => if i < N then some (a0 (n + 3 + i)) else none))))) := by
  unfold exH
  rw [if_neg (by omega), if_neg (by omega), if_pos rfl]
theorem exH_r {i : Nat} (h : i < N) : exH cy a0 n N F1 F2 T ex (n + 3 + i) = .inl (cy 0, 6, .inl (T i)) := by
  unfold exH
  rw [if_neg (by omega), if_neg (by omega), if_neg (by omega), if_pos (by omega), show n + 3 + i - (n + 3) = i by omega]
theorem exH_bo {F : Nat → Int32} {j : Nat} (h : j ≠ n) : exH cy a0 n N F F2 T ex j = exH cy a0 n N F1 F2 T ex j := by
  unfold exH
  rw [if_neg h, if_neg h]
theorem exH_ao {F : Nat → Int32} {j : Nat} (h : j ≠ n + 1) : exH cy a0 n N F1 F T ex j = exH cy a0 n N F1 F2 T ex j := by
  unfold exH
  rw [if_neg h, if_neg h]
theorem exH_ro {T2 : Nat → Nat → Int32} {i j : Nat} (hT : ∀ k, k ≠ i → T2 k = T k) (h : j ≠ n + 3 + i) : exH cy a0 n N F1 F2 T2 ex j = exH cy a0 n N F1 F2 T ex j := by
  unfold exH
  by_cases h1 : n + 3 ≤ j ∧ j < n + 3 + N
  · rw [hT (j - (n + 3)) (by omega)]
  · rw [if_neg h1, if_neg h1]
end EH
theorem va_mnaW {n : Nat} {ad : Nat → Nat} {ce : Nat → va_E} {q N : Nat} {r : Nat → Nat} {o z : va_E} (f : Nat → va_E) : (wL n ad ce ++ [(q, o)]) ++ va_pl ([] ++ (List.range N).map r) (vr_up f ((List.range N).map r) z) = wL (n + 1 + N) (fun k => if k < n then ad k else if k = n then q else r (k - (n + 1))) (fun k => if k < n then ce k else if k = n then o else z) := by
  have e1 : wL n ad ce ++ [(q, o)] = wL (n + 1) (fun k => if k < n then ad k else if k = n then q else r (k - (n + 1))) (fun k => if k < n then ce k else if k = n then o else z) :=
    wL_app (fun k hk => if_pos hk) (fun k hk => if_pos hk) (by show (if n < n then _ else if n = n then q else _) = q; rw [if_neg (Nat.lt_irrefl n), if_pos rfl]) (by show (if n < n then _ else if n = n then o else _) = o; rw [if_neg (Nat.lt_irrefl n), if_pos rfl])
  rw [e1, List.nil_append]
  unfold wL va_pl
  rw [List.range_add (n := n + 1) (m := N), List.map_append, List.map_map, List.map_map]
  refine congrArg (fun w => _ ++ w) (List.map_congr_left (fun i hi => ?_))
  show (r i, vr_up f ((List.range N).map r) z (r i)) = (_, _)
  rw [vr_up_in (List.mem_map.mpr ⟨i, hi, rfl⟩)]
  show (r i, z) = ((if n + 1 + i < n then _ else if n + 1 + i = n then q else r (n + 1 + i - (n + 1))), (if n + 1 + i < n then _ else if n + 1 + i = n then o else z))
  rw [if_neg (by omega), if_neg (by omega), if_neg (by omega), if_neg (by omega), show n + 1 + i - (n + 1) = i by omega]
section MN
variable {p : Program} {l : Launch} {e : Env} {R : Room} {s : State} {m : MethodId} {args : Array Value} {below : List Frame} {meth : Method} {c : Code} {H : Heap} {locs : List Loc} {cells slots : Nat} {Q : State → Prop}
variable {cc : ByteArray} {nL : Nat} {Ts : List Cond} {own : String} {pc : Nat} {ls : Array Slot} {rest : List Value} {D : va_G} {n : Nat} {ad cy sa : Nat → Nat} {ce : Nat → va_E} {A : Nat → Prop}
theorem z_mna {index N : Nat} (S : CallFix p m c cc nL s args Ts own) (hE : ZEnv D cy sa A s) (hW : WS D n ad ce A s.heap H locs) (hcl : (Cond.classLink own index "[[I").before args s = true) (har : (Cond.arrayClass .int).before args s = true) {x : Int32} (hx : x = nI N) (hN : N < 2 ^ 10) (hc : cells + (1 + N) ≤ R.cells) (hs : slots + (N + N * 6) ≤ R.slots) (hdg : decode cc pc = .ok (.multianewarray index 2, 4))
    (kk : ∀ (ad' : Nat → Nat) (H1 : Heap), (∀ k, k < n → ad' k = ad k) → WS D (n + 1 + N) ad' (fun k => if k < n then ce k else if k = n then .inl (cy 3, N, .inr (.inr (.inr (.inr (fun i => if i < N then some (ad' (n + 1 + i)) else none))))) else .inl (cy 0, 6, .inl (fun _ => 0))) A s.heap H1 locs → W p l e R s m args below meth c H1 locs (cells + 1 + N) (slots + N + N * 6) Q (F0 m (pc + 4) ls (.ref (ad' n) :: rest))) : W p l e R s m args below meth c H locs cells slots Q (F0 m pc ls (.int 6 :: .int x :: rest)) := by
  obtain ⟨hx9, hb, hml, hown, hts⟩ := S
  subst hx
  have hapl : wL n ad ce ++ va_pl [] (fun _ => (.inr (0, []) : va_E)) = wL n ad ce := List.append_nil _
  refine va_mna (D := D) (X := wL n ad ce) (L := []) (f := fun _ => .inr (0, [])) (ty := .int) (cy := cy 0) (N' := N) (K' := 6) (z := (6, .inl (fun _ => 0))) hx9 hb hown hcl (over_moved (Vm.Alike.refl s.vm) hE.1.2.2.1.2.1) har (hE.1.1.2 0 _ rfl).2 hE.1.1 (by rw [hapl]; exact hW.1) (by rw [hapl]; exact hW.2.1) hW.2.2 hE.2 (nI_pos (by omega)) (by decide) (nI_clamp (by omega)) (by decide) (by omega) (by decide) (by decide) rfl rfl hc hs (fun c9 => ?_) hdg (fun q r cA H1 hr _ hK hP hD hS => ?_)
  · show ({ cls := c9, slots := Array.replicate 6 (.int 0), vm := .none } : Cell) = _
    rw [arrV_new]
    rfl
  · have e0 : cA = cy 3 := Option.some.inj ((show s.vm.findClass "[[I" = some cA from (hK.2 5 (cA, .array .int) rfl).2).symm.trans (hE.1.1.2 3 _ rfl).2)
    subst e0
    rw [va_mnaW] at hP hD
    have hWW : WS D (n + 1 + N) (fun k => if k < n then ad k else if k = n then q else r (k - (n + 1))) (fun k => if k < n then ce k else if k = n then .inl (cy 3, N, .inr (.inr (.inr (.inr (fun i => if i < N then some ((fun k => if k < n then ad k else if k = n then q else r (k - (n + 1))) (n + 1 + i)) else none))))) else .inl (cy 0, 6, .inl (fun _ => 0))) A s.heap H1 locs := by
      refine WS.to (ce := fun k => if k < n then ce k else if k = n then .inl (cy 3, N, .inr (.inr (.inr (.inr (fun i => if i < N then some (r i) else none))))) else .inl (cy 0, 6, .inl (fun _ => 0))) ⟨hP, hD, hS⟩ ?_
      funext k
      by_cases h1 : k < n
      · rw [if_pos h1, if_pos h1]
      · rw [if_neg h1, if_neg h1]
        by_cases h2 : k = n
        · rw [if_pos h2, if_pos h2]
          have e9 : (fun i => if i < N then some (r i) else none) = (fun i => if i < N then some ((fun k => if k < n then ad k else if k = n then q else r (k - (n + 1))) (n + 1 + i)) else none) := by
            funext i
            show _ = if i < N then some (if n + 1 + i < n then ad (n + 1 + i) else if n + 1 + i = n then q else r (n + 1 + i - (n + 1))) else none
            rw [if_neg (show ¬ n + 1 + i < n by omega), if_neg (show ¬ n + 1 + i = n by omega), show n + 1 + i - (n + 1) = i by omega]
          rw [e9]
        · rw [if_neg h2, if_neg h2]
    have w := kk (fun k => if k < n then ad k else if k = n then q else r (k - (n + 1))) H1 (fun k hk => if_pos hk) hWW
    have en : (if n < n then ad n else if n = n then q else r (n - (n + 1))) = q := by
      rw [if_neg (Nat.lt_irrefl n), if_pos rfl]
    refine z_st (st1 := .ref (if n < n then ad n else if n = n then q else r (n - (n + 1))) :: rest) (by rw [en]) ?_
    exact w
end MN
