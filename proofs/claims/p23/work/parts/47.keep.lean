/-! Each call keeps what is true. -/
section IO
variable {al : Nat → Nat → Int32} {N B h : Nat}
theorem nn {P : Prop} (h : ¬ ¬ P) : P := Classical.not_not.mp h
theorem io_set (I : Inv al N B h) (x y z : Int32) : ∃ N' B' h', Inv (if k_set al x y z = 0 then u_set al x y z else al) N' B' h' ∧ h' ≤ h + 60 := by
  by_cases hk : k_set al x y z = 0
  · rw [if_pos hk]
    exact ⟨N, B, h, I.set, by omega⟩
  · rw [if_neg hk]
    exact ⟨N, B, h, I, by omega⟩
theorem io_setGust (I : Inv al N B h) (x y : Int32) : ∃ N' B' h', Inv (if k_setGust al x y = 0 then u_setGust al x y else al) N' B' h' ∧ h' ≤ h + 60 := by
  by_cases hk : k_setGust al x y = 0
  · rw [if_pos hk]
    unfold k_setGust at hk
    split at hk
    · cases hk
    · split at hk
      · cases hk
      · rename_i h1 h2
        obtain ⟨g, hg, rfl⟩ := zIn_ex 9 rfl (by decide) (nn h2)
        exact ⟨N, B, h, I.setGust (by omega), by omega⟩
  · rw [if_neg hk]
    exact ⟨N, B, h, I, by omega⟩
theorem io_build (I : Inv al N B h) (x : Int32) : ∃ N' B' h', Inv (if k_build al x = 0 then u_build al x else al) N' B' h' ∧ h' ≤ h + 60 := by
  by_cases hk : k_build al x = 0
  · rw [if_pos hk]
    unfold k_build at hk
    split at hk
    · cases hk
    · split at hk
      · cases hk
      · rename_i h1 h2
        have hN := I.1.1
        have hN6 := I.1.2.1
        have hlt : N < 6 := z_lt hN (by omega) (by decide) (nn h2)
        obtain ⟨o, ho1, ho, rfl⟩ := zIn_ex1 1 8 rfl rfl (by decide) (by decide) (nn h1)
        unfold u_build
        rw [hN, ix_nI (show N < 2 ^ 31 by omega), nI_1]
        exact ⟨N + 1, B, h, I.build hlt (by omega), by omega⟩
  · rw [if_neg hk]
    exact ⟨N, B, h, I, by omega⟩
theorem io_launch (I : Inv al N B h) (x : Int32) : ∃ N' B' h', Inv (if k_launch al x = 0 then u_launch al x else al) N' B' h' ∧ h' ≤ h + 60 := by
  by_cases hk : k_launch al x = 0
  · rw [if_pos hk]
    unfold k_launch at hk
    split at hk
    · cases hk
    · split at hk
      · cases hk
      · rename_i h1 h2
        have hB := I.1.2.2.1
        have hB4 := I.1.2.2.2.1
        have hlt : B < 4 := z_lt hB (by omega) (by decide) (nn h2)
        obtain ⟨o, ho1, ho, rfl⟩ := zIn_ex1 100 900 rfl rfl (by decide) (by decide) (nn h1)
        unfold u_launch
        rw [hB, ix_nI (show B < 2 ^ 31 by omega), nI_1]
        exact ⟨N, B + 1, h, I.launch hlt (by omega), by omega⟩
  · rw [if_neg hk]
    exact ⟨N, B, h, I, by omega⟩
theorem io_go (I : Inv al N B h) (x : Int32) : ∃ N' B' h', Inv (if k_go al x = 0 then u_go al x else al) N' B' h' ∧ h' ≤ h + 60 := by
  by_cases hk : k_go al x = 0
  · rw [if_pos hk]
    have hN := I.1.1
    have hN6 := I.1.2.1
    unfold k_go at hk
    split at hk
    · cases hk
    · rename_i h1
      obtain ⟨i, hi, rfl⟩ := zS_ex hN (by omega) (nn h1)
      unfold u_go
      rw [ix_nI (show i < 2 ^ 31 by omega)]
      exact ⟨N, B, h, I.go hi, by omega⟩
  · rw [if_neg hk]
    exact ⟨N, B, h, I, by omega⟩
theorem io_pass (I : Inv al N B h) (hh : h < 2 ^ 20) (x : Int32) : ∃ N' B' h', Inv (if k_pass al x = 0 then u_pass al x else al) N' B' h' ∧ h' ≤ h + 60 := by
  by_cases hk : k_pass al x = 0
  · rw [if_pos hk]
    unfold k_pass at hk
    split at hk
    · cases hk
    · rename_i h1
      obtain ⟨T, hT1, hT, rfl⟩ := zIn_ex1 1 60 rfl rfl (by decide) (by decide) (nn h1)
      unfold u_pass
      rw [ix_nI (show T < 2 ^ 31 by omega)]
      exact ⟨N, B, h + T, I.hours T (by omega), by omega⟩
  · rw [if_neg hk]
    exact ⟨N, B, h, I, by omega⟩
theorem back_o {x : Int32} {k : Nat} (h7 : k ≠ 7) (h9 : k ≠ 9) (h16 : k ≠ 16) (h23 : k ≠ 23) : u_back al x k = al k := by
  unfold u_back
  rw [trvT_o (by omega) (by omega) (by omega), becomeS_o (by omega) (by omega)]
theorem arrives_o {x : Int32} {k : Nat} (h7 : k ≠ 7) (h9 : k ≠ 9) (h16 : k ≠ 16) (h23 : k ≠ 23) : u_arrives al x k = al k := by
  unfold u_arrives
  split
  · rw [becomeS_o (by omega) (by omega)]
  · rw [trvT_o (by omega) (by omega) (by omega), zup_o (by omega), becomeS_o (by omega) (by omega)]
theorem foresee_o {x y : Int32} {k : Nat} (h7 : k ≠ 7) (h9 : k ≠ 9) (h16 : k ≠ 16) (h23 : k ≠ 23) : u_foresee al x y k = al k := by
  unfold u_foresee
  rw [forN_o (by omega) (by omega) (by omega) (by omega)]
theorem io_back (I : Inv al N B h) (x : Int32) : ∃ N' B' h', Inv (if k_back al x = 0 then u_back al x else al) N' B' h' ∧ h' ≤ h + 60 := by
  by_cases hk : k_back al x = 0
  · rw [if_pos hk]
    have hN := I.1.1
    have hN6 := I.1.2.1
    unfold k_back at hk
    split at hk
    · cases hk
    · rename_i h1
      obtain ⟨i, hi, rfl⟩ := zS_ex hN (by omega) (nn h1)
      obtain ⟨a, ha, ha8⟩ := I.ab i (by omega)
      refine ⟨N, B, h, I.back (fun k => back_o) ?_, by omega⟩
      unfold u_back
      rw [ix_nI (show i < 2 ^ 31 by omega)]
      obtain ⟨b, hb, hb2⟩ := trvT_ab (al := becomeS al 6 i) (i := 6) (sh := 1) (g := gf al) (by decide) (becomeS_2.trans ha) ha8 (bk (gf al) 100 0 (rowS al i))
      exact ⟨b, hb2, by omega⟩
  · rw [if_neg hk]
    exact ⟨N, B, h, I, by omega⟩
theorem io_arrives (I : Inv al N B h) (x : Int32) : ∃ N' B' h', Inv (if k_arrives al x = 0 then u_arrives al x else al) N' B' h' ∧ h' ≤ h + 60 := by
  by_cases hk : k_arrives al x = 0
  · rw [if_pos hk]
    have hN := I.1.1
    have hN6 := I.1.2.1
    unfold k_arrives at hk
    split at hk
    · cases hk
    · rename_i h1
      obtain ⟨i, hi, rfl⟩ := zS_ex hN (by omega) (nn h1)
      obtain ⟨a, ha, ha8⟩ := I.ab i (by omega)
      refine ⟨N, B, h, I.back (fun k => arrives_o) ?_, by omega⟩
      unfold u_arrives
      rw [ix_nI (show i < 2 ^ 31 by omega)]
      split
      · exact ⟨a, becomeS_2.trans ha, ha8⟩
      · obtain ⟨b, hb, hb2⟩ := trvT_ab (al := zup (becomeS al 6 i) (10 + 6) 4 1) (i := 6) (sh := 1) (g := gf al) (by decide) ((congrFun zup_k 2).trans ((up_n (by decide)).trans (becomeS_2.trans ha))) ha8 (ar (gf al) 100 0 (rowS (zup (becomeS al 6 i) (10 + 6) 4 1) 6))
        exact ⟨b, hb2, by omega⟩
  · rw [if_neg hk]
    exact ⟨N, B, h, I, by omega⟩
theorem forN_T (I : Inv al N B h) {T : Nat} : ∀ i, i ≤ 6 → TI (forN al T i)
  | 0, _ => I.2.2.1.congr (becomeH_o (by decide) (by decide))
  | i + 1, hi => by
    obtain ⟨a, ha, ha8⟩ := I.ab i (by omega)
    show TI (trvT (becomeS (forN al T i) 6 i) 6 1 (gf al) T)
    obtain ⟨b, hb, hb2⟩ := trvT_ab (al := becomeS (forN al T i) 6 i) (i := 6) (sh := 1) (g := gf al) (by decide) (becomeS_2.trans ((congrFun (forN_o (by omega) (by omega) (by omega) (by omega) i) 2).trans ha)) ha8 T
    exact ⟨b, hb2, by omega⟩
theorem io_foresee (I : Inv al N B h) (x y : Int32) : ∃ N' B' h', Inv (if k_foresee al x y = 0 then u_foresee al x y else al) N' B' h' ∧ h' ≤ h + 60 := by
  by_cases hk : k_foresee al x y = 0
  · rw [if_pos hk]
    have hN := I.1.1
    have hN6 := I.1.2.1
    refine ⟨N, B, h, I.back (fun k => foresee_o) ?_, by omega⟩
    unfold u_foresee
    rw [hN, ix_nI (show N < 2 ^ 31 by omega)]
    exact forN_T I N hN6
  · rw [if_neg hk]
    exact ⟨N, B, h, I, by omega⟩
end IO
