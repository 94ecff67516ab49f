/-! Each call keeps what is true. -/
section IO
variable {al : Nat → Nat → Int32} {N B h : Nat}
theorem nn {P : Prop} (h : ¬ ¬ P) : P := Classical.not_not.mp h
theorem io_set (I : Inv al N B h) (x y z : Int32) : ∃ N' B' h', Inv (if k_set al x y z = 0 then u_set al x y z else al) N' B' h' ∧ h' ≤ h + 60 := by
  by_cases hk : k_set al x y z = 0
  · rw [if_pos hk]
    exact ⟨N, B, h, I.set, by omega⟩
  · rw [if_neg hk]
    exact ⟨N, B, h, I, by omega⟩
theorem io_setGust (I : Inv al N B h) (x y : Int32) : ∃ N' B' h', Inv (if k_setGust al x y = 0 then u_setGust al x y else al) N' B' h' ∧ h' ≤ h + 60 := by
  by_cases hk : k_setGust al x y = 0
  · rw [if_pos hk]
    unfold k_setGust at hk
    split at hk
    · cases hk
    · split at hk
      · cases hk
      · rename_i h1 h2
        obtain ⟨g, hg, rfl⟩ := zIn_ex 9 rfl (by decide) (nn h2)
        exact ⟨N, B, h, I.setGust (by omega), by omega⟩
  · rw [if_neg hk]
    exact ⟨N, B, h, I, by omega⟩
theorem io_build (I : Inv al N B h) (x : Int32) : ∃ N' B' h', Inv (if k_build al x = 0 then u_build al x else al) N' B' h' ∧ h' ≤ h + 60 := by
  by_cases hk : k_build al x = 0
  · rw [if_pos hk]
    unfold k_build at hk
    split at hk
    · cases hk
    · split at hk
      · cases hk
      · rename_i h1 h2
        have hN := I.1.1
        have hN6 := I.1.2.1
        have hlt : N < 6 := z_lt hN (by omega) (by decide) (nn h2)
        obtain ⟨o, ho1, ho, rfl⟩ := zIn_ex1 1 8 rfl rfl (by decide) (by decide) (nn h1)
        unfold u_build
        rw [hN, ix_nI (show N < 2 ^ 31 by omega), nI_1]
        exact ⟨N + 1, B, h, I.build hlt (by omega), by omega⟩
  · rw [if_neg hk]
    exact ⟨N, B, h, I, by omega⟩
theorem io_launch (I : Inv al N B h) (x : Int32) : ∃ N' B' h', Inv (if k_launch al x = 0 then u_launch al x else al) N' B' h' ∧ h' ≤ h + 60 := by
  by_cases hk : k_launch al x = 0
  · rw [if_pos hk]
    unfold k_launch at hk
    split at hk
    · cases hk
    · split at hk
      · cases hk
      · rename_i h1 h2
        have hB := I.1.2.2.1
        have hB4 := I.1.2.2.2.1
        have hlt : B < 4 := z_lt hB (by omega) (by decide) (nn h2)
        obtain ⟨o, ho1, ho, rfl⟩ := zIn_ex1 100 900 rfl rfl (by decide) (by decide) (nn h1)
        unfold u_launch
        rw [hB, ix_nI (show B < 2 ^ 31 by omega), nI_1]
        exact ⟨N, B + 1, h, I.launch hlt (by omega), by omega⟩
  · rw [if_neg hk]
    exact ⟨N, B, h, I, by omega⟩
theorem io_fill (I : Inv al N B h) (x y : Int32) : ∃ N' B' h', Inv (if k_fill al x y = 0 then u_fill al x y else al) N' B' h' ∧ h' ≤ h + 60 := by
  by_cases hk : k_fill al x y = 0
  · rw [if_pos hk]
    have hN := I.1.1
    have hN6 := I.1.2.1
    unfold k_fill at hk
    split at hk
    · cases hk
    · rename_i h1
      obtain ⟨i, hi, rfl⟩ := zS_ex hN (by omega) (nn h1)
      rw [ix_nI (show i < 2 ^ 31 by omega)] at hk
      split at hk
      · cases hk
      · split at hk
        · cases hk
        · split at hk
          · cases hk
          · rename_i h2 h3 h4
            obtain ⟨o, a, ho, ha, hao, ho8⟩ := I.rowO i hi
            rw [ho, ha] at h4
            have hne : a ≠ o := fun q => h4 ((z_fullE hao ho8).mpr (by rw [q]))
            unfold u_fill
            rw [ix_nI (show i < 2 ^ 31 by omega), ha, ix_nI (show a < 2 ^ 31 by omega), nI_1]
            exact ⟨N, B, h, I.fill hi ha ho (by omega) ho8, by omega⟩
  · rw [if_neg hk]
    exact ⟨N, B, h, I, by omega⟩
theorem io_go (I : Inv al N B h) (x : Int32) : ∃ N' B' h', Inv (if k_go al x = 0 then u_go al x else al) N' B' h' ∧ h' ≤ h + 60 := by
  by_cases hk : k_go al x = 0
  · rw [if_pos hk]
    have hN := I.1.1
    have hN6 := I.1.2.1
    unfold k_go at hk
    split at hk
    · cases hk
    · rename_i h1
      obtain ⟨i, hi, rfl⟩ := zS_ex hN (by omega) (nn h1)
      unfold u_go
      rw [ix_nI (show i < 2 ^ 31 by omega)]
      exact ⟨N, B, h, I.go hi, by omega⟩
  · rw [if_neg hk]
    exact ⟨N, B, h, I, by omega⟩
theorem io_stow (I : Inv al N B h) (x y z : Int32) : ∃ N' B' h', Inv (if k_stow al x y z = 0 then u_stow al x y z else al) N' B' h' ∧ h' ≤ h + 60 := by
  by_cases hk : k_stow al x y z = 0
  · rw [if_pos hk]
    have hB := I.1.2.2.1
    have hB4 := I.1.2.2.2.1
    unfold k_stow at hk
    split at hk
    · cases hk
    · rename_i h1
      obtain ⟨i, hi, rfl⟩ := zS_ex hB (by omega) (nn h1)
      rw [ix_nI (show i < 2 ^ 31 by omega)] at hk
      split at hk
      · cases hk
      · rename_i h2
        obtain ⟨j, hj, rfl⟩ := zIn_ex 2 rfl (by decide) (nn h2)
        rw [ix_nI (show j < 2 ^ 31 by omega)] at hk
        split at hk
        · cases hk
        · split at hk
          · cases hk
          · rename_i h3 h4
            obtain ⟨L, f, t, hL, hf, ht, hft, hL9⟩ := I.boatO i hi
            obtain ⟨sv, hsv, es⟩ := z_stw (nI j)
            have h5 := nn h4
            rw [hL, hf, ht, es, pk_sub (by omega), pk_sub (by omega), nI_leI (by omega) (by omega)] at h5
            have hK : ∀ k, k < 3 → ∃ c, upd (al (8 + 0)) j (al (8 + 0) j - 1) k = nI c ∧ c ≤ 48 * h := by
              intro k hk3
              obtain ⟨c, hc, hc2⟩ := I.2.2.2.2.2 k hk3
              by_cases q : k = j
              · subst q
                rw [up_s, hc]
                have hc0 : 0 < c := by
                  rcases Nat.eq_zero_or_pos c with q0 | q0
                  · rw [hc, q0] at h3
                    exact absurd (nn h3) (by decide)
                  · exact q0
                exact ⟨c - 1, by rw [show c = (c - 1) + 1 by omega, nI_pred]; rfl, by omega⟩
              · rw [up_n q]
                exact ⟨c, hc, hc2⟩
            unfold u_stow
            rw [ix_nI (show i < 2 ^ 31 by omega), ix_nI (show j < 2 ^ 31 by omega)]
            have hfr : ∀ (g : Nat) (v : Int32) (k : Nat), k ≠ 24 + i → k ≠ 8 → zup (zup al (8 + 0) j (al (8 + 0) j - 1)) (24 + i) g v k = al k := fun g v k h1 h2 => by rw [zup_o h1, zup_o h2]
            split
            · refine ⟨N, B, h, I.boat hi (fun q _ => by rw [hfr _ _ 0 (by omega) (by decide)]) (fun q hq => hfr _ _ _ (by omega) (by omega)) (fun b hb hbi => hfr _ _ _ (by omega) (by omega)) ⟨L, f, t + sv, ?_, ?_, ?_, fun _ => ⟨by omega, hL9⟩, fun q => by omega⟩ (hfr _ _ _ (by omega) (by decide)) ?_, by omega⟩
              · rw [zup_k, up_n (by decide), zup_o (by omega)]; exact hL
              · rw [zup_k, up_n (by decide), zup_o (by omega)]; exact hf
              · rw [zup_k, up_s, ht, es, nI_add]
              · intro k hk3
                rw [zup_o (by omega), zup_k]
                exact hK k hk3
            · refine ⟨N, B, h, I.boat hi (fun q _ => by rw [hfr _ _ 0 (by omega) (by decide)]) (fun q hq => hfr _ _ _ (by omega) (by omega)) (fun b hb hbi => hfr _ _ _ (by omega) (by omega)) ⟨L, f + sv, t, ?_, ?_, ?_, fun _ => ⟨by omega, hL9⟩, fun q => by omega⟩ (hfr _ _ _ (by omega) (by decide)) ?_, by omega⟩
              · rw [zup_k, up_n (by decide), zup_o (by omega)]; exact hL
              · rw [zup_k, up_s, hf, es, nI_add]
              · rw [zup_k, up_n (by decide), zup_o (by omega)]; exact ht
              · intro k hk3
                rw [zup_o (by omega), zup_k]
                exact hK k hk3
  · rw [if_neg hk]
    exact ⟨N, B, h, I, by omega⟩
theorem io_sail (I : Inv al N B h) (x : Int32) : ∃ N' B' h', Inv (if k_sail al x = 0 then u_sail al x else al) N' B' h' ∧ h' ≤ h + 60 := by
  by_cases hk : k_sail al x = 0
  · rw [if_pos hk]
    have hB := I.1.2.2.1
    have hB4 := I.1.2.2.2.1
    unfold k_sail at hk
    split at hk
    · cases hk
    · rename_i h1
      obtain ⟨i, hi, rfl⟩ := zS_ex hB (by omega) (nn h1)
      obtain ⟨L, f, t, hL, hf, ht, hft, hL9⟩ := I.boatO i hi
      unfold u_sail
      rw [ix_nI (show i < 2 ^ 31 by omega)]
      have hfr : ∀ (v : Int32) (k : Nat), k ≠ 24 + i → k ≠ 0 → zup (zup (zup al (24 + i) 1 0) (24 + i) 2 0) 0 9 v k = al k := fun v k h1 h2 => by rw [zup_o h2, zup_o h1, zup_o h1]
      refine ⟨N, B, h, I.boat hi (fun q hq => by rw [zup_k, up_n hq, zup_o (by omega), zup_o (by omega)]) (fun q hq => hfr _ _ (by omega) (by omega)) (fun b hb hbi => hfr _ _ (by omega) (by omega)) ⟨L, 0, 0, ?_, ?_, ?_, fun _ => ⟨by omega, hL9⟩, fun q => by omega⟩ (hfr _ _ (by omega) (by decide)) (fun k hk3 => by rw [hfr _ _ (by omega) (by decide)]; exact I.2.2.2.2.2 k hk3), by omega⟩
      · rw [zup_o (by omega), zup_k, up_n (by decide), zup_k, up_n (by decide)]; exact hL
      · rw [zup_o (by omega), zup_k, up_n (by decide), zup_k, up_s]; rfl
      · rw [zup_o (by omega), zup_k, up_s]; rfl
  · rw [if_neg hk]
    exact ⟨N, B, h, I, by omega⟩
theorem io_pass (I : Inv al N B h) (hh : h < 2 ^ 20) (x : Int32) : ∃ N' B' h', Inv (if k_pass al x = 0 then u_pass al x else al) N' B' h' ∧ h' ≤ h + 60 := by
  by_cases hk : k_pass al x = 0
  · rw [if_pos hk]
    unfold k_pass at hk
    split at hk
    · cases hk
    · rename_i h1
      obtain ⟨T, hT1, hT, rfl⟩ := zIn_ex1 1 60 rfl rfl (by decide) (by decide) (nn h1)
      unfold u_pass
      rw [ix_nI (show T < 2 ^ 31 by omega)]
      exact ⟨N, B, h + T, I.hours T (by omega), by omega⟩
  · rw [if_neg hk]
    exact ⟨N, B, h, I, by omega⟩
theorem back_o {x : Int32} {k : Nat} (h7 : k ≠ 7) (h9 : k ≠ 9) (h16 : k ≠ 16) (h23 : k ≠ 23) : u_back al x k = al k := by
  unfold u_back
  rw [trvT_o (by omega) (by omega) (by omega), becomeS_o (by omega) (by omega)]
theorem arrives_o {x : Int32} {k : Nat} (h7 : k ≠ 7) (h9 : k ≠ 9) (h16 : k ≠ 16) (h23 : k ≠ 23) : u_arrives al x k = al k := by
  unfold u_arrives
  split
  · rw [becomeS_o (by omega) (by omega)]
  · rw [trvT_o (by omega) (by omega) (by omega), zup_o (by omega), becomeS_o (by omega) (by omega)]
theorem foresee_o {x y : Int32} {k : Nat} (h7 : k ≠ 7) (h9 : k ≠ 9) (h16 : k ≠ 16) (h23 : k ≠ 23) : u_foresee al x y k = al k := by
  unfold u_foresee
  rw [forN_o (by omega) (by omega) (by omega) (by omega)]
theorem io_back (I : Inv al N B h) (x : Int32) : ∃ N' B' h', Inv (if k_back al x = 0 then u_back al x else al) N' B' h' ∧ h' ≤ h + 60 := by
  by_cases hk : k_back al x = 0
  · rw [if_pos hk]
    have hN := I.1.1
    have hN6 := I.1.2.1
    unfold k_back at hk
    split at hk
    · cases hk
    · rename_i h1
      obtain ⟨i, hi, rfl⟩ := zS_ex hN (by omega) (nn h1)
      obtain ⟨a, ha, ha8⟩ := I.ab i (by omega)
      refine ⟨N, B, h, I.back (fun k => back_o) ?_, by omega⟩
      unfold u_back
      rw [ix_nI (show i < 2 ^ 31 by omega)]
      obtain ⟨b, hb, hb2⟩ := trvT_ab (al := becomeS al 6 i) (i := 6) (sh := 1) (g := gf al) (by decide) (becomeS_2.trans ha) ha8 (bk (gf al) 100 0 (rowS al i))
      exact ⟨b, hb2, by omega⟩
  · rw [if_neg hk]
    exact ⟨N, B, h, I, by omega⟩
theorem io_arrives (I : Inv al N B h) (x : Int32) : ∃ N' B' h', Inv (if k_arrives al x = 0 then u_arrives al x else al) N' B' h' ∧ h' ≤ h + 60 := by
  by_cases hk : k_arrives al x = 0
  · rw [if_pos hk]
    have hN := I.1.1
    have hN6 := I.1.2.1
    unfold k_arrives at hk
    split at hk
    · cases hk
    · rename_i h1
      obtain ⟨i, hi, rfl⟩ := zS_ex hN (by omega) (nn h1)
      obtain ⟨a, ha, ha8⟩ := I.ab i (by omega)
      refine ⟨N, B, h, I.back (fun k => arrives_o) ?_, by omega⟩
      unfold u_arrives
      rw [ix_nI (show i < 2 ^ 31 by omega)]
      split
      · exact ⟨a, becomeS_2.trans ha, ha8⟩
      · obtain ⟨b, hb, hb2⟩ := trvT_ab (al := zup (becomeS al 6 i) (10 + 6) 4 1) (i := 6) (sh := 1) (g := gf al) (by decide) ((congrFun zup_k 2).trans ((up_n (by decide)).trans (becomeS_2.trans ha))) ha8 (ar (gf al) 100 0 (rowS (zup (becomeS al 6 i) (10 + 6) 4 1) 6))
        exact ⟨b, hb2, by omega⟩
  · rw [if_neg hk]
    exact ⟨N, B, h, I, by omega⟩
theorem forN_T (I : Inv al N B h) {T : Nat} : ∀ i, i ≤ 6 → TI (forN al T i)
  | 0, _ => I.2.2.1.congr (becomeH_o (by decide) (by decide))
  | i + 1, hi => by
    obtain ⟨a, ha, ha8⟩ := I.ab i (by omega)
    show TI (trvT (becomeS (forN al T i) 6 i) 6 1 (gf al) T)
    obtain ⟨b, hb, hb2⟩ := trvT_ab (al := becomeS (forN al T i) 6 i) (i := 6) (sh := 1) (g := gf al) (by decide) (becomeS_2.trans ((congrFun (forN_o (by omega) (by omega) (by omega) (by omega) i) 2).trans ha)) ha8 T
    exact ⟨b, hb2, by omega⟩
theorem io_foresee (I : Inv al N B h) (x y : Int32) : ∃ N' B' h', Inv (if k_foresee al x y = 0 then u_foresee al x y else al) N' B' h' ∧ h' ≤ h + 60 := by
  by_cases hk : k_foresee al x y = 0
  · rw [if_pos hk]
    have hN := I.1.1
    have hN6 := I.1.2.1
    refine ⟨N, B, h, I.back (fun k => foresee_o) ?_, by omega⟩
    unfold u_foresee
    rw [hN, ix_nI (show N < 2 ^ 31 by omega)]
    exact forN_T I N hN6
  · rw [if_neg hk]
    exact ⟨N, B, h, I, by omega⟩
end IO
