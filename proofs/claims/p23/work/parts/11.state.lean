/-! What the sledge side's cells 0..27 hold, as a function al of cell and place; and the reference's cells 28..34, as a function ta of cell and place. -/
def celC (cy : Nat → ClassId) (ad : Nat → Nat) (k : Nat) (a : Nat → Int32) : va_E :=
  if k = 0 then .inr (3, [.ref (ad 1), .ref (ad 2), .ref (ad 3), .ref (ad 4), .int (a 4), .ref (ad 5), .int (a 6), .ref (ad 6), .int (a 8), .int (a 9), .ref (ad 16), .ref (ad 7)])
  else if k = 1 then .inl (cy 0, 5, .inl a)
  else if k = 2 then .inl (cy 0, 5, .inl a)
  else if k = 3 then .inl (cy 0, 8, .inl a)
  else if k = 4 then .inl (cy 1, 6, .inr (.inr (.inr (.inr (fun i => some (ad (10 + i)))))))
  else if k = 5 then .inl (cy 2, 4, .inr (.inr (.inr (.inr (fun i => some (ad (24 + i)))))))
  else if k < 8 then .inr (1, [.ref (ad (k + 2)), .int (a 1)])
  else if k < 10 then .inl (cy 0, 3, .inl a)
  else if k < 17 then .inr (2, [.int (a 0), .ref (ad (k + 7)), .int (a 2), .int (a 3), .int (a 4)])
  else if k < 24 then .inl (cy 0, 8, .inl a)
  else .inr (0, [.int (a 0), .int (a 1), .int (a 2)])
def cC (cy : Nat → ClassId) (ad : Nat → Nat) (al : Nat → Nat → Int32) (ex : Nat → va_E) (k : Nat) : va_E := if k < 28 then celC cy ad k (al k) else ex k
section ZB
variable {cy : Nat → ClassId} {ad : Nat → Nat} {al : Nat → Nat → Int32} {ex : Nat → va_E}
theorem cC_in {k : Nat} (h : k < 28) : cC cy ad al ex k = celC cy ad k (al k) := if_pos h
theorem cC_0 : cC cy ad al ex 0 = .inr (3, [.ref (ad 1), .ref (ad 2), .ref (ad 3), .ref (ad 4), .int (al 0 4), .ref (ad 5), .int (al 0 6), .ref (ad 6), .int (al 0 8), .int (al 0 9), .ref (ad 16), .ref (ad 7)]) := rfl
theorem cC_1 : cC cy ad al ex 1 = .inl (cy 0, 5, .inl (al 1)) := rfl
theorem cC_2 : cC cy ad al ex 2 = .inl (cy 0, 5, .inl (al 2)) := rfl
theorem cC_3 : cC cy ad al ex 3 = .inl (cy 0, 8, .inl (al 3)) := rfl
theorem cC_4 : cC cy ad al ex 4 = .inl (cy 1, 6, .inr (.inr (.inr (.inr (fun i => some (ad (10 + i))))))) := rfl
theorem cC_5 : cC cy ad al ex 5 = .inl (cy 2, 4, .inr (.inr (.inr (.inr (fun i => some (ad (24 + i))))))) := rfl
theorem cC_h {i : Nat} (h : i < 2) : cC cy ad al ex (6 + i) = .inr (1, [.ref (ad (8 + i)), .int (al (6 + i) 1)]) := by
  rcases (show i = 0 ∨ i = 1 by omega) with rfl | rfl <;> rfl
theorem cC_hs {i : Nat} (h : i < 2) : cC cy ad al ex (8 + i) = .inl (cy 0, 3, .inl (al (8 + i))) := by
  rcases (show i = 0 ∨ i = 1 by omega) with rfl | rfl <;> rfl
theorem cC_s {i : Nat} (h : i < 7) : cC cy ad al ex (10 + i) = .inr (2, [.int (al (10 + i) 0), .ref (ad (17 + i)), .int (al (10 + i) 2), .int (al (10 + i) 3), .int (al (10 + i) 4)]) := by
  rcases (show i = 0 ∨ i = 1 ∨ i = 2 ∨ i = 3 ∨ i = 4 ∨ i = 5 ∨ i = 6 by omega) with rfl | rfl | rfl | rfl | rfl | rfl | rfl <;> rfl
theorem cC_w {i : Nat} (h : i < 7) : cC cy ad al ex (17 + i) = .inl (cy 0, 8, .inl (al (17 + i))) := by
  rcases (show i = 0 ∨ i = 1 ∨ i = 2 ∨ i = 3 ∨ i = 4 ∨ i = 5 ∨ i = 6 by omega) with rfl | rfl | rfl | rfl | rfl | rfl | rfl <;> rfl
theorem cC_b {i : Nat} (h : i < 4) : cC cy ad al ex (24 + i) = .inr (0, [.int (al (24 + i) 0), .int (al (24 + i) 1), .int (al (24 + i) 2)]) := by
  rcases (show i = 0 ∨ i = 1 ∨ i = 2 ∨ i = 3 by omega) with rfl | rfl | rfl | rfl <;> rfl
theorem cC_o {k f j : Nat} {v : Int32} (h : j ≠ k) : cC cy ad (zup al k f v) ex j = cC cy ad al ex j := by
  unfold cC
  rw [zup_o h]
theorem up_s {f : Nat → Int32} {k : Nat} {x : Int32} : upd f k x k = x := if_pos rfl
theorem up_n {f : Nat → Int32} {k j : Nat} {x : Int32} (h : j ≠ k) : upd f k x j = f j := if_neg h
theorem pC_0 {f : Nat} {v : Int32} (hf : f = 4 ∨ f = 6 ∨ f = 8 ∨ f = 9) : cC cy ad (zup al 0 f v) ex 0 = .inr (3, [.ref (ad 1), .ref (ad 2), .ref (ad 3), .ref (ad 4), .int (al 0 4), .ref (ad 5), .int (al 0 6), .ref (ad 6), .int (al 0 8), .int (al 0 9), .ref (ad 16), .ref (ad 7)].set f (.int v)) := by
  rw [cC_0, zup_k]
  rcases hf with rfl | rfl | rfl | rfl <;> rfl
theorem pC_h {i : Nat} {v : Int32} (h : i < 2) : cC cy ad (zup al (6 + i) 1 v) ex (6 + i) = .inr (1, [.ref (ad (8 + i)), .int (al (6 + i) 1)].set 1 (.int v)) := by
  rw [cC_h h, zup_k]
  rfl
theorem pC_s {i f : Nat} {v : Int32} (h : i < 7) (hf : f = 0 ∨ f = 2 ∨ f = 3 ∨ f = 4) : cC cy ad (zup al (10 + i) f v) ex (10 + i) = .inr (2, [.int (al (10 + i) 0), .ref (ad (17 + i)), .int (al (10 + i) 2), .int (al (10 + i) 3), .int (al (10 + i) 4)].set f (.int v)) := by
  rw [cC_s h, zup_k]
  rcases hf with rfl | rfl | rfl | rfl <;> rfl
theorem pC_b {i f : Nat} {v : Int32} (h : i < 4) (hf : f = 0 ∨ f = 1 ∨ f = 2) : cC cy ad (zup al (24 + i) f v) ex (24 + i) = .inr (0, [.int (al (24 + i) 0), .int (al (24 + i) 1), .int (al (24 + i) 2)].set f (.int v)) := by
  rw [cC_b h, zup_k]
  rcases hf with rfl | rfl | rfl <;> rfl
theorem pC_1 {j : Nat} {v : Int32} : cC cy ad (zup al 1 j v) ex 1 = .inl (cy 0, 5, .inl (upd (al 1) j v)) := by rw [cC_1, zup_k]
theorem pC_2 {j : Nat} {v : Int32} : cC cy ad (zup al 2 j v) ex 2 = .inl (cy 0, 5, .inl (upd (al 2) j v)) := by rw [cC_2, zup_k]
theorem pC_3 {j : Nat} {v : Int32} : cC cy ad (zup al 3 j v) ex 3 = .inl (cy 0, 8, .inl (upd (al 3) j v)) := by rw [cC_3, zup_k]
theorem pC_hs {i j : Nat} {v : Int32} (h : i < 2) : cC cy ad (zup al (8 + i) j v) ex (8 + i) = .inl (cy 0, 3, .inl (upd (al (8 + i)) j v)) := by rw [cC_hs h, zup_k]
theorem pC_w {i j : Nat} {v : Int32} (h : i < 7) : cC cy ad (zup al (17 + i) j v) ex (17 + i) = .inl (cy 0, 8, .inl (upd (al (17 + i)) j v)) := by rw [cC_w h, zup_k]
end ZB
section ZM
variable {cy : Nat → ClassId} {ad : Nat → Nat} {ta : Nat → Nat → Int32} {ex : Nat → va_E}
end ZM
