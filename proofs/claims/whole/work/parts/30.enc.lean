/-! The reference's rows, as the same numbers lie in them. -/
def slo (al : Nat → Nat → Int32) (j : Nat) : Int32 :=
  if 72 ≤ j then 0
  else if j % 12 = 0 then al (10 + j / 12) 0
  else if j % 12 = 1 then al (10 + j / 12) 2
  else if j % 12 = 2 then (if j / 12 < ix (al 0 4) then al (10 + j / 12) 3 else 0)
  else if j % 12 = 3 then al (10 + j / 12) 4
  else al (17 + j / 12) (j % 12 - 4)
def fle (al : Nat → Nat → Int32) (j : Nat) : Int32 := if 12 ≤ j then 0 else al (24 + j / 3) (j % 3)
def num (al : Nat → Nat → Int32) (j : Nat) : Int32 := if j = 0 then al 0 8 else if j = 1 then al 0 9 else if j = 2 then al (6 + 0) 1 else if j < 6 then al (8 + 0) (j - 3) else 0
def enc (al : Nat → Nat → Int32) (th : Int32) (k : Nat) : Nat → Int32 :=
  if k = 0 then (fun j => if j = 0 then th else if j = 1 then al 0 4 else if j = 2 then al 0 6 else 0)
  else if k = 1 then al 1 else if k = 2 then al 2 else if k = 3 then al 3
  else if k = 4 then slo al else if k = 5 then fle al else if k = 6 then num al else (fun _ => 0)
section ZE
variable {al : Nat → Nat → Int32} {th v : Int32} {i j k b : Nat}
theorem r_th : enc al th 0 0 = th := rfl
theorem r_n : enc al th 0 1 = al 0 4 := rfl
theorem r_b : enc al th 0 2 = al 0 6 := rfl
theorem r_st : enc al th 1 j = al 1 j := rfl
theorem r_sw : enc al th 2 j = al 2 j := rfl
theorem r_gu : enc al th 3 j = al 3 j := rfl
theorem r_m0 : enc al th 6 0 = al 0 8 := rfl
theorem r_m1 : enc al th 6 1 = al 0 9 := rfl
theorem r_m2 : enc al th 6 2 = al (6 + 0) 1 := rfl
theorem r_mk (h : k < 3) : enc al th 6 (3 + k) = al (8 + 0) k := by
  show num al (3 + k) = _
  unfold num
  rw [if_neg (by omega), if_neg (by omega), if_neg (by omega), if_pos (by omega), Nat.add_sub_cancel_left]
theorem r_f (hb : b < 4) (hf : k < 3) : enc al th 5 (3 * b + k) = al (24 + b) k := by
  show fle al (3 * b + k) = _
  unfold fle
  rw [if_neg (by omega), show (3 * b + k) / 3 = b by omega, show (3 * b + k) % 3 = k by omega]
theorem r_s0 (hi : i < 6) : enc al th 4 (12 * i + 0) = al (10 + i) 0 := by
  show slo al (12 * i + 0) = _
  unfold slo
  rw [if_neg (by omega), if_pos (by omega), show (12 * i + 0) / 12 = i by omega]
theorem r_s1 (hi : i < 6) : enc al th 4 (12 * i + 1) = al (10 + i) 2 := by
  show slo al (12 * i + 1) = _
  unfold slo
  rw [if_neg (by omega), if_neg (by omega), if_pos (by omega), show (12 * i + 1) / 12 = i by omega]
theorem r_s2 (hi : i < 6) (hn : i < ix (al 0 4)) : enc al th 4 (12 * i + 2) = al (10 + i) 3 := by
  show slo al (12 * i + 2) = _
  unfold slo
  rw [if_neg (by omega), if_neg (by omega), if_neg (by omega), if_pos (by omega), show (12 * i + 2) / 12 = i by omega, if_pos hn]
theorem r_s3 (hi : i < 6) : enc al th 4 (12 * i + 3) = al (10 + i) 4 := by
  show slo al (12 * i + 3) = _
  unfold slo
  rw [if_neg (by omega), if_neg (by omega), if_neg (by omega), if_neg (by omega), if_pos (by omega), show (12 * i + 3) / 12 = i by omega]
theorem r_sw4 (hi : i < 6) (hk : k < 8) : enc al th 4 (12 * i + (4 + k)) = al (17 + i) k := by
  show slo al (12 * i + (4 + k)) = _
  unfold slo
  rw [if_neg (by omega), if_neg (by omega), if_neg (by omega), if_neg (by omega), if_neg (by omega), show (12 * i + (4 + k)) / 12 = i by omega, show (12 * i + (4 + k)) % 12 - 4 = k by omega]
theorem enc_ext {ta : Nat → Nat → Int32} (h0 : ta 0 = enc al th 0) (h1 : ta 1 = al 1) (h2 : ta 2 = al 2) (h3 : ta 3 = al 3) (h4 : ta 4 = slo al) (h5 : ta 5 = fle al) (h6 : ta 6 = num al) (h7 : ∀ k, 7 ≤ k → ta k = (fun _ => 0)) : ta = enc al th := by
  funext k
  by_cases q0 : k = 0
  · subst q0; exact h0
  by_cases q1 : k = 1
  · subst q1; exact h1
  by_cases q2 : k = 2
  · subst q2; exact h2
  by_cases q3 : k = 3
  · subst q3; exact h3
  by_cases q4 : k = 4
  · subst q4; exact h4
  by_cases q5 : k = 5
  · subst q5; exact h5
  by_cases q6 : k = 6
  · subst q6; exact h6
  · rw [h7 k (by omega)]
    unfold enc
    rw [if_neg q0, if_neg q1, if_neg q2, if_neg q3, if_neg q4, if_neg q5, if_neg q6]
theorem enc_7 (h : 7 ≤ k) : enc al th k = (fun _ => 0) := by
  unfold enc
  rw [if_neg (by omega), if_neg (by omega), if_neg (by omega), if_neg (by omega), if_neg (by omega), if_neg (by omega), if_neg (by omega)]
/-- two states that the reference tells alike -/
theorem enc_eq {be : Nat → Nat → Int32} (h04 : be 0 4 = al 0 4) (h06 : be 0 6 = al 0 6) (h08 : be 0 8 = al 0 8) (h09 : be 0 9 = al 0 9) (h1 : be 1 = al 1) (h2 : be 2 = al 2) (h3 : be 3 = al 3) (h61 : be 6 1 = al 6 1) (h8 : be 8 = al 8) (hs : ∀ i, i < 6 → be (10 + i) = al (10 + i)) (hw : ∀ i, i < 6 → be (17 + i) = al (17 + i)) (hb : ∀ i, i < 4 → be (24 + i) = al (24 + i)) : enc be th = enc al th := by
  refine enc_ext ?_ h1 h2 h3 ?_ ?_ ?_ (fun k hk => enc_7 hk)
  · show (fun j => if j = 0 then th else if j = 1 then be 0 4 else if j = 2 then be 0 6 else 0) = (fun j => if j = 0 then th else if j = 1 then al 0 4 else if j = 2 then al 0 6 else 0)
    rw [h04, h06]
  · funext j
    show slo be j = slo al j
    unfold slo
    by_cases q : 72 ≤ j
    · rw [if_pos q, if_pos q]
    · rw [if_neg q, if_neg q, hs _ (by omega), hw _ (by omega), h04]
  · funext j
    show fle be j = fle al j
    unfold fle
    by_cases q : 12 ≤ j
    · rw [if_pos q, if_pos q]
    · rw [if_neg q, if_neg q, hb _ (by omega)]
  · funext j
    show num be j = num al j
    unfold num
    rw [h08, h09, show be (6 + 0) 1 = al (6 + 0) 1 from h61, show be (8 + 0) = al (8 + 0) from h8]
theorem slo_o {f : Nat} (h0 : k ≠ 0 ∨ f ≠ 4) (hs : k < 10 ∨ 16 ≤ k) (hw : k < 17 ∨ 23 ≤ k) : slo (zup al k f v) = slo al := by
  funext j
  unfold slo
  have e0 : zup al k f v 0 4 = al 0 4 := by
    by_cases q : k = 0
    · subst q
      rw [zup_k, up_n (by omega)]
    · rw [zup_o (fun z => q z.symm)]
  rw [e0]
  by_cases q : 72 ≤ j
  · rw [if_pos q, if_pos q]
  · rw [if_neg q, if_neg q, zup_o (a := 10 + j / 12) (by omega), zup_o (a := 17 + j / 12) (by omega)]
theorem fle_o {f : Nat} (h : k < 24 ∨ 28 ≤ k) : fle (zup al k f v) = fle al := by
  funext j
  unfold fle
  by_cases q : 12 ≤ j
  · rw [if_pos q, if_pos q]
  · rw [if_neg q, if_neg q, zup_o (a := 24 + j / 3) (by omega)]
theorem num_o {f : Nat} (h0 : k ≠ 0 ∨ (f ≠ 8 ∧ f ≠ 9)) (h6 : k ≠ 6) (h8 : k ≠ 8) : num (zup al k f v) = num al := by
  funext j
  unfold num
  have e0 : zup al k f v 0 8 = al 0 8 ∧ zup al k f v 0 9 = al 0 9 := by
    by_cases q : k = 0
    · subst q
      rw [zup_k, up_n (by omega), up_n (by omega)]
      exact ⟨rfl, rfl⟩
    · rw [zup_o (fun z => q z.symm)]
      exact ⟨rfl, rfl⟩
  rw [e0.1, e0.2, zup_o (a := 6 + 0) (by omega), zup_o (a := 8 + 0) (by omega)]
theorem e_hd {f : Nat} (h : k ≠ 0 ∨ (f ≠ 4 ∧ f ≠ 6)) : enc (zup al k f v) th 0 = enc al th 0 := by
  show (fun j => if j = 0 then th else if j = 1 then zup al k f v 0 4 else if j = 2 then zup al k f v 0 6 else 0) = (fun j => if j = 0 then th else if j = 1 then al 0 4 else if j = 2 then al 0 6 else 0)
  have e0 : zup al k f v 0 4 = al 0 4 ∧ zup al k f v 0 6 = al 0 6 := by
    by_cases q : k = 0
    · subst q
      rw [zup_k, up_n (by omega), up_n (by omega)]
      exact ⟨rfl, rfl⟩
    · rw [zup_o (fun z => q z.symm)]
      exact ⟨rfl, rfl⟩
  rw [e0.1, e0.2]
theorem e_th {w : Int32} : zup (enc al th) 0 0 w = enc al w := by
  refine enc_ext ?_ rfl rfl rfl rfl rfl rfl (fun k hk => by rw [zup_o (by omega), enc_7 hk])
  · rw [zup_k]
    funext j
    show (if j = 0 then w else if j = 0 then th else if j = 1 then al 0 4 else if j = 2 then al 0 6 else 0) = (if j = 0 then w else if j = 1 then al 0 4 else if j = 2 then al 0 6 else 0)
    by_cases q : j = 0
    · rw [if_pos q, if_pos q]
    · rw [if_neg q, if_neg q, if_neg q]
/-- a write of the reference's is a write of the common state -/
theorem e_st : zup (enc al th) 1 j v = enc (zup al 1 j v) th := by
  refine enc_ext ?_ ?_ ?_ ?_ ?_ ?_ ?_ (fun k hk => by rw [zup_o (by omega), enc_7 hk])
  · rw [zup_o (by decide), e_hd (by omega)]
  · rw [zup_k, zup_k]; rfl
  · rw [zup_o (by decide), zup_o (by decide)]; rfl
  · rw [zup_o (by decide), zup_o (by decide)]; rfl
  · rw [zup_o (by decide), slo_o (by omega) (by omega) (by omega)]; rfl
  · rw [zup_o (by decide), fle_o (by omega)]; rfl
  · rw [zup_o (by decide), num_o (by omega) (by omega) (by omega)]; rfl
theorem e_sw : zup (enc al th) 2 j v = enc (zup al 2 j v) th := by
  refine enc_ext ?_ ?_ ?_ ?_ ?_ ?_ ?_ (fun k hk => by rw [zup_o (by omega), enc_7 hk])
  · rw [zup_o (by decide), e_hd (by omega)]
  · rw [zup_o (by decide), zup_o (by decide)]; rfl
  · rw [zup_k, zup_k]; rfl
  · rw [zup_o (by decide), zup_o (by decide)]; rfl
  · rw [zup_o (by decide), slo_o (by omega) (by omega) (by omega)]; rfl
  · rw [zup_o (by decide), fle_o (by omega)]; rfl
  · rw [zup_o (by decide), num_o (by omega) (by omega) (by omega)]; rfl
theorem e_gu : zup (enc al th) 3 j v = enc (zup al 3 j v) th := by
  refine enc_ext ?_ ?_ ?_ ?_ ?_ ?_ ?_ (fun k hk => by rw [zup_o (by omega), enc_7 hk])
  · rw [zup_o (by decide), e_hd (by omega)]
  · rw [zup_o (by decide), zup_o (by decide)]; rfl
  · rw [zup_o (by decide), zup_o (by decide)]; rfl
  · rw [zup_k, zup_k]; rfl
  · rw [zup_o (by decide), slo_o (by omega) (by omega) (by omega)]; rfl
  · rw [zup_o (by decide), fle_o (by omega)]; rfl
  · rw [zup_o (by decide), num_o (by omega) (by omega) (by omega)]; rfl
theorem e_b : zup (enc al th) 0 2 v = enc (zup al 0 6 v) th := by
  refine enc_ext ?_ ?_ ?_ ?_ ?_ ?_ ?_ (fun k hk => by rw [zup_o (by omega), enc_7 hk])
  · rw [zup_k]
    funext j
    show (if j = 2 then v else if j = 0 then th else if j = 1 then al 0 4 else if j = 2 then al 0 6 else 0) = (if j = 0 then th else if j = 1 then zup al 0 6 v 0 4 else if j = 2 then zup al 0 6 v 0 6 else 0)
    rw [zup_k, up_n (by decide), up_s]
    by_cases q : j = 2
    · subst q; rfl
    · rw [if_neg q, if_neg q, if_neg q]
  · rw [zup_o (by decide), zup_o (by decide)]; rfl
  · rw [zup_o (by decide), zup_o (by decide)]; rfl
  · rw [zup_o (by decide), zup_o (by decide)]; rfl
  · rw [zup_o (by decide), slo_o (by omega) (by omega) (by omega)]; rfl
  · rw [zup_o (by decide), fle_o (by omega)]; rfl
  · rw [zup_o (by decide), num_o (by omega) (by omega) (by omega)]; rfl
theorem e_slo {f c : Nat} (hk : 10 ≤ k) (hk2 : k < 23) (h : ∀ j, upd (slo al) c v j = slo (zup al k f v) j) : zup (enc al th) 4 c v = enc (zup al k f v) th := by
  refine enc_ext ?_ ?_ ?_ ?_ ?_ ?_ ?_ (fun q hq => by rw [zup_o (by omega), enc_7 hq])
  · rw [zup_o (by decide), e_hd (by omega)]
  · rw [zup_o (by decide), zup_o (by omega)]; rfl
  · rw [zup_o (by decide), zup_o (by omega)]; rfl
  · rw [zup_o (by decide), zup_o (by omega)]; rfl
  · rw [zup_k]
    funext j
    exact h j
  · rw [zup_o (by decide), fle_o (by omega)]; rfl
  · rw [zup_o (by decide), num_o (by omega) (by omega) (by omega)]; rfl
theorem z_ap {f a c : Nat} : zup al k f v a c = if a = k then (if c = f then v else al a c) else al a c := by
  unfold zup upd
  by_cases q : a = k
  · rw [if_pos q, if_pos q]
  · rw [if_neg q, if_neg q]
theorem e_s0 (hi : i < 6) : zup (enc al th) 4 (12 * i + 0) v = enc (zup al (10 + i) 0 v) th := by
  refine e_slo (by omega) (by omega) (fun j => ?_)
  unfold upd slo
  simp only [z_ap]
  by_cases q : j = 12 * i + 0
  · subst q
    rw [if_pos rfl, if_neg (by omega), if_pos (by omega), if_pos (by omega), if_pos trivial]
  · rw [if_neg q]
    by_cases q1 : 72 ≤ j
    · rw [if_pos q1, if_pos q1]
    · rw [if_neg q1, if_neg q1]
      by_cases q2 : j % 12 = 0
      · rw [if_pos q2, if_pos q2, if_neg (by omega)]
      · rw [if_neg q2, if_neg q2, if_neg (show ¬ 0 = 10 + i by omega), if_neg (show ¬ 17 + j / 12 = 10 + i by omega), if_neg (show ¬ 2 = 0 by decide), if_neg (show ¬ 3 = 0 by decide), if_neg (show ¬ 4 = 0 by decide), ite_self, ite_self, ite_self]
theorem e_s1 (hi : i < 6) : zup (enc al th) 4 (12 * i + 1) v = enc (zup al (10 + i) 2 v) th := by
  refine e_slo (by omega) (by omega) (fun j => ?_)
  unfold upd slo
  simp only [z_ap]
  by_cases q : j = 12 * i + 1
  · subst q
    rw [if_pos rfl, if_neg (by omega), if_neg (by omega), if_pos (by omega), if_pos (by omega), if_pos trivial]
  · rw [if_neg q]
    by_cases q1 : 72 ≤ j
    · rw [if_pos q1, if_pos q1]
    · rw [if_neg q1, if_neg q1]
      by_cases q2 : j % 12 = 1
      · rw [if_neg (by omega), if_pos q2, if_neg (by omega), if_pos q2, if_neg (by omega)]
      · rw [if_neg q2, if_neg q2, if_neg (show ¬ 0 = 10 + i by omega), if_neg (show ¬ 17 + j / 12 = 10 + i by omega), if_neg (show ¬ 0 = 2 by decide), if_neg (show ¬ 3 = 2 by decide), if_neg (show ¬ 4 = 2 by decide), ite_self, ite_self, ite_self]
theorem e_s2 (hi : i < 6) (hn : i < ix (al 0 4)) : zup (enc al th) 4 (12 * i + 2) v = enc (zup al (10 + i) 3 v) th := by
  refine e_slo (by omega) (by omega) (fun j => ?_)
  unfold upd slo
  simp only [z_ap]
  by_cases q : j = 12 * i + 2
  · subst q
    rw [if_pos rfl, if_neg (by omega), if_neg (by omega), if_neg (by omega), if_pos (by omega), if_neg (show ¬ 0 = 10 + i by omega), show (12 * i + 2) / 12 = i by omega, if_pos hn, if_pos rfl, if_pos trivial]
  · rw [if_neg q]
    by_cases q1 : 72 ≤ j
    · rw [if_pos q1, if_pos q1]
    · rw [if_neg q1, if_neg q1]
      by_cases q2 : j % 12 = 2
      · rw [if_neg (show ¬ j % 12 = 0 by omega), if_neg (show ¬ j % 12 = 1 by omega), if_pos q2, if_neg (show ¬ j % 12 = 0 by omega), if_neg (show ¬ j % 12 = 1 by omega), if_pos q2, if_neg (show ¬ 0 = 10 + i by omega)]
        by_cases q3 : j / 12 < ix (al 0 4)
        · rw [if_pos q3, if_pos q3, if_neg (show ¬ 10 + j / 12 = 10 + i by omega)]
        · rw [if_neg q3, if_neg q3]
      · rw [if_neg q2, if_neg q2, if_neg (show ¬ 17 + j / 12 = 10 + i by omega), if_neg (show ¬ 0 = 3 by decide), if_neg (show ¬ 2 = 3 by decide), if_neg (show ¬ 4 = 3 by decide), ite_self, ite_self, ite_self]
theorem e_s3 (hi : i < 6) : zup (enc al th) 4 (12 * i + 3) v = enc (zup al (10 + i) 4 v) th := by
  refine e_slo (by omega) (by omega) (fun j => ?_)
  unfold upd slo
  simp only [z_ap]
  by_cases q : j = 12 * i + 3
  · subst q
    rw [if_pos rfl, if_neg (by omega), if_neg (by omega), if_neg (by omega), if_neg (by omega), if_pos (by omega), if_pos (by omega), if_pos trivial]
  · rw [if_neg q]
    by_cases q1 : 72 ≤ j
    · rw [if_pos q1, if_pos q1]
    · rw [if_neg q1, if_neg q1]
      by_cases q2 : j % 12 = 3
      · rw [if_neg (by omega), if_neg (by omega), if_neg (by omega), if_pos q2, if_neg (by omega), if_neg (by omega), if_neg (by omega), if_pos q2, if_neg (by omega)]
      · rw [if_neg q2, if_neg q2, if_neg (show ¬ 0 = 10 + i by omega), if_neg (show ¬ 17 + j / 12 = 10 + i by omega), if_neg (show ¬ 0 = 4 by decide), if_neg (show ¬ 2 = 4 by decide), if_neg (show ¬ 3 = 4 by decide), ite_self, ite_self, ite_self]
theorem e_w (hi : i < 6) (hk : k < 8) : zup (enc al th) 4 (12 * i + (4 + k)) v = enc (zup al (17 + i) k v) th := by
  refine e_slo (by omega) (by omega) (fun j => ?_)
  unfold upd slo
  simp only [z_ap]
  by_cases q : j = 12 * i + (4 + k)
  · subst q
    rw [if_pos rfl, if_neg (by omega), if_neg (by omega), if_neg (by omega), if_neg (by omega), if_neg (by omega), if_pos (by omega), if_pos (by omega)]
  · rw [if_neg q]
    by_cases q1 : 72 ≤ j
    · rw [if_pos q1, if_pos q1]
    · rw [if_neg q1, if_neg q1, if_neg (show ¬ 10 + j / 12 = 17 + i by omega), if_neg (show ¬ 0 = 17 + i by omega), if_neg (show ¬ 10 + j / 12 = 17 + i by omega), if_neg (show ¬ 10 + j / 12 = 17 + i by omega), if_neg (show ¬ 10 + j / 12 = 17 + i by omega)]
      by_cases q2 : j % 12 < 4
      · by_cases q3 : j % 12 = 0
        · rw [if_pos q3, if_pos q3]
        · rw [if_neg q3, if_neg q3]
          by_cases q4 : j % 12 = 1
          · rw [if_pos q4, if_pos q4]
          · rw [if_neg q4, if_neg q4]
            by_cases q5 : j % 12 = 2
            · rw [if_pos q5, if_pos q5]
            · rw [if_neg q5, if_neg q5, if_pos (by omega), if_pos (by omega)]
      · rw [if_neg (by omega), if_neg (by omega), if_neg (by omega), if_neg (by omega), if_neg (by omega), if_neg (by omega), if_neg (by omega), if_neg (by omega)]
        by_cases q3 : 17 + j / 12 = 17 + i
        · rw [if_pos q3, if_neg (by omega)]
        · rw [if_neg q3]
theorem e_f (hb : b < 4) (hk : k < 3) : zup (enc al th) 5 (3 * b + k) v = enc (zup al (24 + b) k v) th := by
  refine enc_ext ?_ ?_ ?_ ?_ ?_ ?_ ?_ (fun q hq => by rw [zup_o (by omega), enc_7 hq])
  · rw [zup_o (by decide), e_hd (by omega)]
  · rw [zup_o (by decide), zup_o (by omega)]; rfl
  · rw [zup_o (by decide), zup_o (by omega)]; rfl
  · rw [zup_o (by decide), zup_o (by omega)]; rfl
  · rw [zup_o (by decide), slo_o (by omega) (by omega) (by omega)]; rfl
  · rw [zup_k]
    funext j
    show upd (fle al) (3 * b + k) v j = fle (zup al (24 + b) k v) j
    unfold upd fle
    simp only [z_ap]
    by_cases q : j = 3 * b + k
    · subst q
      rw [if_pos rfl, if_neg (by omega), if_pos (by omega), if_pos (by omega)]
    · rw [if_neg q]
      by_cases q1 : 12 ≤ j
      · rw [if_pos q1, if_pos q1]
      · rw [if_neg q1, if_neg q1]
        by_cases q2 : 24 + j / 3 = 24 + b
        · rw [if_pos q2, if_neg (by omega)]
        · rw [if_neg q2]
  · rw [zup_o (by decide), num_o (by omega) (by omega) (by omega)]; rfl
theorem e_nums {f c : Nat} (h : k = 0 ∧ (f = 8 ∨ f = 9) ∨ k = 6 ∨ k = 8) (hc : ∀ j, upd (num al) c v j = num (zup al k f v) j) : zup (enc al th) 6 c v = enc (zup al k f v) th := by
  refine enc_ext ?_ ?_ ?_ ?_ ?_ ?_ ?_ (fun q hq => by rw [zup_o (by omega), enc_7 hq])
  · rw [zup_o (by decide), e_hd (by omega)]
  · rw [zup_o (by decide), zup_o (by omega)]; rfl
  · rw [zup_o (by decide), zup_o (by omega)]; rfl
  · rw [zup_o (by decide), zup_o (by omega)]; rfl
  · rw [zup_o (by decide), slo_o (by omega) (by omega) (by omega)]; rfl
  · rw [zup_o (by decide), fle_o (by omega)]; rfl
  · rw [zup_k]
    funext j
    exact hc j
theorem e_m0 : zup (enc al th) 6 0 v = enc (zup al 0 8 v) th := by
  refine e_nums (Or.inl ⟨rfl, Or.inl rfl⟩) (fun j => ?_)
  unfold upd num
  simp only [z_ap]
  by_cases q : j = 0
  · rw [if_pos q, if_pos q]; rfl
  · rw [if_neg q, if_neg q, if_neg q]; rfl
theorem e_m1 : zup (enc al th) 6 1 v = enc (zup al 0 9 v) th := by
  refine e_nums (Or.inl ⟨rfl, Or.inr rfl⟩) (fun j => ?_)
  unfold upd num
  simp only [z_ap]
  by_cases q : j = 1
  · subst q; rfl
  · rw [if_neg q, if_neg q, if_neg q]; rfl
theorem e_m2 : zup (enc al th) 6 2 v = enc (zup al (6 + 0) 1 v) th := by
  refine e_nums (Or.inr (Or.inl rfl)) (fun j => ?_)
  unfold upd num
  simp only [z_ap]
  by_cases q : j = 2
  · subst q; rfl
  · rw [if_neg q, if_neg q, if_neg q]; rfl
theorem e_mk (hk : k < 3) : zup (enc al th) 6 (3 + k) v = enc (zup al (8 + 0) k v) th := by
  refine e_nums (Or.inr (Or.inr rfl)) (fun j => ?_)
  unfold upd num
  simp only [z_ap]
  by_cases q : j = 3 + k
  · subst q
    rw [if_pos rfl, if_neg (by omega), if_neg (by omega), if_neg (by omega), if_pos (by omega), if_pos trivial, if_pos (by omega)]
  · rw [if_neg q]
    by_cases q0 : j = 0
    · rw [if_pos q0, if_pos q0]; rfl
    · rw [if_neg q0, if_neg q0]
      by_cases q1 : j = 1
      · rw [if_pos q1, if_pos q1]; rfl
      · rw [if_neg q1, if_neg q1]
        by_cases q2 : j = 2
        · rw [if_pos q2, if_pos q2]; rfl
        · rw [if_neg q2, if_neg q2, if_pos trivial]
          by_cases q3 : j < 6
          · rw [if_pos q3, if_pos q3, if_neg (by omega)]
          · rw [if_neg q3, if_neg q3]
end ZE
