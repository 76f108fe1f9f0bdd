/-! THE START: the picture that the constructors leave is the loop's -/
set_option maxHeartbeats 40000000 in
set_option maxRecDepth 100000 in
theorem g_eq (D : zD) (S0 : Nat) : gZ D S0 = xF D S0 (gL0 D S0) kZ := by
  funext q
  by_cases hq : S0 ≤ q ∧ q < S0 + 11
  · obtain ⟨i, hi, rfl⟩ : ∃ i, i < 11 ∧ q = S0 + i := ⟨q - S0, by omega, by omega⟩
    rcases (show i = 0 ∨ i = 1 ∨ i = 2 ∨ i = 3 ∨ i = 4 ∨ i = 5 ∨ i = 6 ∨ i = 7 ∨ i = 8 ∨ i = 9 ∨ i = 10 by omega) with rfl | rfl | rfl | rfl | rfl | rfl | rfl | rfl | rfl | rfl | rfl
    · simp [gZ, gI5, gI0, gI2, gL0, xF, xE, va_up, xoU, xoP, xoA, kZ, Nat.add_assoc] <;> rfl
    · simp [gZ, gI5, gI0, gI2, gL0, xF, xE, va_up, xoU, xoP, xoA, kZ, Nat.add_assoc] <;> rfl
    · simp [gZ, gI5, gI0, gI2, gL0, xF, xE, va_up, xoU, xoP, xoA, kZ, Nat.add_assoc] <;> rfl
    · simp [gZ, gI5, gI0, gI2, gL0, xF, xE, va_up, xoU, xoP, xoA, kZ, Nat.add_assoc] <;> rfl
    · simp [gZ, gI5, gI0, gI2, gL0, xF, xE, va_up, xoU, xoP, xoA, kZ, Nat.add_assoc] <;> rfl
    · simp [gZ, gI5, gI0, gI2, gL0, xF, xE, va_up, xoU, xoP, xoA, kZ, Nat.add_assoc] <;> rfl
    · simp [gZ, gI5, gI0, gI2, gL0, xF, xE, va_up, xoU, xoP, xoA, kZ, Nat.add_assoc] <;> rfl
    · simp [gZ, gI5, gI0, gI2, gL0, xF, xE, va_up, xoU, xoP, xoA, kZ, Nat.add_assoc] <;> rfl
    · simp [gZ, gI5, gI0, gI2, gL0, xF, xE, va_up, xoU, xoP, xoA, kZ, Nat.add_assoc] <;> rfl
    · simp [gZ, gI5, gI0, gI2, gL0, xF, xE, va_up, xoU, xoP, xoA, kZ, Nat.add_assoc] <;> rfl
    · simp [gZ, gI5, gI0, gI2, gL0, xF, xE, va_up, xoU, xoP, xoA, kZ, Nat.add_assoc] <;> rfl
  · have h0 : ¬ q = S0 := by omega
    have h1 : ¬ q = S0 + 1 := by omega
    have h2 : ¬ q = S0 + 2 := by omega
    have h3 : ¬ q = S0 + 3 := by omega
    have h4 : ¬ q = S0 + 4 := by omega
    have h5 : ¬ q = S0 + 5 := by omega
    have h6 : ¬ q = S0 + 6 := by omega
    have h7 : ¬ q = S0 + 7 := by omega
    have h8 : ¬ q = S0 + 8 := by omega
    have h9 : ¬ q = S0 + 9 := by omega
    have h10 : ¬ q = S0 + 10 := by omega
    simp [gZ, gI5, gI0, gI2, gL0, xF, xE, va_up, xoU, xoP, xoA, kZ, h0, h1, h2, h3, h4, h5, h6, h7, h8, h9, h10, Nat.add_assoc]
