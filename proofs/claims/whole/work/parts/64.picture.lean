/-! THE START: the picture that the constructors leave is the loop's -/
theorem g_lam (x : Int32) (f : Nat → Int32) (h : ∀ j, f j = x) : f = fun _ => x := funext h
set_option maxHeartbeats 40000000 in
set_option maxRecDepth 100000 in
theorem g_eq (D : zD) (S0 : Nat) : gZ D S0 = xF D S0 (lG D S0 mZ0 oZ) kZ := by
  funext q
  by_cases hq : S0 ≤ q ∧ q < S0 + 30
  · obtain ⟨i, hi, rfl⟩ : ∃ i, i < 30 ∧ q = S0 + i := ⟨q - S0, by omega, by omega⟩
    rcases (show i = 0 ∨ i = 1 ∨ i = 2 ∨ i = 3 ∨ i = 4 ∨ i = 5 ∨ i = 6 ∨ i = 7 ∨ i = 8 ∨ i = 9 ∨ i = 10 ∨ i = 11 ∨ i = 12 ∨ i = 13 ∨ i = 14 ∨ i = 15 ∨ i = 16 ∨ i = 17 ∨ i = 18 ∨ i = 19 ∨ i = 20 ∨ i = 21 ∨ i = 22 ∨ i = 23 ∨ i = 24 ∨ i = 25 ∨ i = 26 ∨ i = 27 ∨ i = 28 ∨ i = 29 by omega) with rfl | rfl | rfl | rfl | rfl | rfl | rfl | rfl | rfl | rfl | rfl | rfl | rfl | rfl | rfl | rfl | rfl | rfl | rfl | rfl | rfl | rfl | rfl | rfl | rfl | rfl | rfl | rfl | rfl | rfl
    · simp [gZ, gI5, gI6, gI0, gI2, xF, lG, mF, oF, xE, mE, va_up, xoU, xoP, xoA, moM, kZ, mZ0, oZ, Nat.add_assoc] <;> rfl
    · simp [gZ, gI5, gI6, gI0, gI2, xF, lG, mF, oF, xE, mE, va_up, xoU, xoP, xoA, moM, kZ, mZ0, oZ, Nat.add_assoc] <;> rfl
    · simp [gZ, gI5, gI6, gI0, gI2, xF, lG, mF, oF, xE, mE, va_up, xoU, xoP, xoA, moM, kZ, mZ0, oZ, Nat.add_assoc] <;> rfl
    · simp [gZ, gI5, gI6, gI0, gI2, xF, lG, mF, oF, xE, mE, va_up, xoU, xoP, xoA, moM, kZ, mZ0, oZ, Nat.add_assoc] <;> rfl
    · simp [gZ, gI5, gI6, gI0, gI2, xF, lG, mF, oF, xE, mE, va_up, xoU, xoP, xoA, moM, kZ, mZ0, oZ, Nat.add_assoc] <;> rfl
    · simp [gZ, gI5, gI6, gI0, gI2, xF, lG, mF, oF, xE, mE, va_up, xoU, xoP, xoA, moM, kZ, mZ0, oZ, Nat.add_assoc] <;> rfl
    · simp [gZ, gI5, gI6, gI0, gI2, xF, lG, mF, oF, xE, mE, va_up, xoU, xoP, xoA, moM, kZ, mZ0, oZ, Nat.add_assoc] <;> rfl
    · simp [gZ, gI5, gI6, gI0, gI2, xF, lG, mF, oF, xE, mE, va_up, xoU, xoP, xoA, moM, kZ, mZ0, oZ, Nat.add_assoc] <;> rfl
    · simp [gZ, gI5, gI6, gI0, gI2, xF, lG, mF, oF, xE, mE, va_up, xoU, xoP, xoA, moM, kZ, mZ0, oZ, Nat.add_assoc] <;> rfl
    · simp [gZ, gI5, gI6, gI0, gI2, xF, lG, mF, oF, xE, mE, va_up, xoU, xoP, xoA, moM, kZ, mZ0, oZ, Nat.add_assoc] <;> rfl
    · simp [gZ, gI5, gI6, gI0, gI2, xF, lG, mF, oF, xE, mE, va_up, xoU, xoP, xoA, moM, kZ, mZ0, oZ, Nat.add_assoc] <;> rfl
    · simp [gZ, gI5, gI6, gI0, gI2, xF, lG, mF, oF, xE, mE, va_up, xoU, xoP, xoA, moM, kZ, mZ0, oZ, Nat.add_assoc] <;> rfl
    · simp [gZ, gI5, gI6, gI0, gI2, xF, lG, mF, oF, xE, mE, va_up, xoU, xoP, xoA, moM, kZ, mZ0, oZ, Nat.add_assoc] <;> rfl
    · simp [gZ, gI5, gI6, gI0, gI2, xF, lG, mF, oF, xE, mE, va_up, xoU, xoP, xoA, moM, kZ, mZ0, oZ, Nat.add_assoc] <;> rfl
    · simp [gZ, gI5, gI6, gI0, gI2, xF, lG, mF, oF, xE, mE, va_up, xoU, xoP, xoA, moM, kZ, mZ0, oZ, Nat.add_assoc] <;> rfl
    · simp [gZ, gI5, gI6, gI0, gI2, xF, lG, mF, oF, xE, mE, va_up, xoU, xoP, xoA, moM, kZ, mZ0, oZ, Nat.add_assoc] <;> rfl
    · simp [gZ, gI5, gI6, gI0, gI2, xF, lG, mF, oF, xE, mE, va_up, xoU, xoP, xoA, moM, kZ, mZ0, oZ, Nat.add_assoc] <;> rfl
    · simp [gZ, gI5, gI6, gI0, gI2, xF, lG, mF, oF, xE, mE, va_up, xoU, xoP, xoA, moM, kZ, mZ0, oZ, Nat.add_assoc] <;> rfl
    · simp [gZ, gI5, gI6, gI0, gI2, xF, lG, mF, oF, xE, mE, va_up, xoU, xoP, xoA, moM, kZ, mZ0, oZ, Nat.add_assoc] <;> rfl
    · simp [gZ, gI5, gI6, gI0, gI2, xF, lG, mF, oF, xE, mE, va_up, xoU, xoP, xoA, moM, kZ, mZ0, oZ, Nat.add_assoc] <;> rfl
    · simp [gZ, gI5, gI6, gI0, gI2, xF, lG, mF, oF, xE, mE, va_up, xoU, xoP, xoA, moM, kZ, mZ0, oZ, Nat.add_assoc] <;> rfl
    · simp [gZ, gI5, gI6, gI0, gI2, xF, lG, mF, oF, xE, mE, va_up, xoU, xoP, xoA, moM, kZ, mZ0, oZ, Nat.add_assoc] <;> rfl
    · simp [gZ, gI5, gI6, gI0, gI2, xF, lG, mF, oF, xE, mE, va_up, xoU, xoP, xoA, moM, kZ, mZ0, oZ, Nat.add_assoc] <;> rfl
    · simp [gZ, gI5, gI6, gI0, gI2, xF, lG, mF, oF, xE, mE, va_up, xoU, xoP, xoA, moM, kZ, mZ0, oZ, Nat.add_assoc] <;> rfl
    · simp [gZ, gI5, gI6, gI0, gI2, xF, lG, mF, oF, xE, mE, va_up, xoU, xoP, xoA, moM, kZ, mZ0, oZ, Nat.add_assoc] <;> rfl
    · simp [gZ, gI5, gI6, gI0, gI2, xF, lG, mF, oF, xE, mE, va_up, xoU, xoP, xoA, moM, kZ, mZ0, oZ, Nat.add_assoc] <;> rfl
    · simp [gZ, gI5, gI6, gI0, gI2, xF, lG, mF, oF, xE, mE, va_up, xoU, xoP, xoA, moM, kZ, mZ0, oZ, Nat.add_assoc] <;> rfl
    · simp [gZ, gI5, gI6, gI0, gI2, xF, lG, mF, oF, xE, mE, va_up, xoU, xoP, xoA, moM, kZ, mZ0, oZ, Nat.add_assoc] <;> rfl
    · simp [gZ, gI5, gI6, gI0, gI2, xF, lG, mF, oF, xE, mE, va_up, xoU, xoP, xoA, moM, kZ, mZ0, oZ, Nat.add_assoc] <;> rfl
    · simp [gZ, gI5, gI6, gI0, gI2, xF, lG, mF, oF, xE, mE, va_up, xoU, xoP, xoA, moM, kZ, mZ0, oZ, Nat.add_assoc] <;> rfl
  · have h0 : ¬ q = S0 := by omega
    have h1 : ¬ q = S0 + 1 := by omega
    have h2 : ¬ q = S0 + 2 := by omega
    have h3 : ¬ q = S0 + 3 := by omega
    have h4 : ¬ q = S0 + 4 := by omega
    have h5 : ¬ q = S0 + 5 := by omega
    have h6 : ¬ q = S0 + 6 := by omega
    have h7 : ¬ q = S0 + 7 := by omega
    have h8 : ¬ q = S0 + 8 := by omega
    have h9 : ¬ q = S0 + 9 := by omega
    have h10 : ¬ q = S0 + 10 := by omega
    have h11 : ¬ q = S0 + 11 := by omega
    have h12 : ¬ q = S0 + 12 := by omega
    have h13 : ¬ q = S0 + 13 := by omega
    have h14 : ¬ q = S0 + 14 := by omega
    have h15 : ¬ q = S0 + 15 := by omega
    have h16 : ¬ q = S0 + 16 := by omega
    have h17 : ¬ q = S0 + 17 := by omega
    have h18 : ¬ q = S0 + 18 := by omega
    have h19 : ¬ q = S0 + 19 := by omega
    have h20 : ¬ q = S0 + 20 := by omega
    have h21 : ¬ q = S0 + 21 := by omega
    have h22 : ¬ q = S0 + 22 := by omega
    have h23 : ¬ q = S0 + 23 := by omega
    have h24 : ¬ q = S0 + 24 := by omega
    have h25 : ¬ q = S0 + 25 := by omega
    have h26 : ¬ q = S0 + 26 := by omega
    have h27 : ¬ q = S0 + 27 := by omega
    have h28 : ¬ q = S0 + 28 := by omega
    have h29 : ¬ q = S0 + 29 := by omega
    have hr : ¬ (S0 + 9 ≤ q ∧ q < S0 + 30) := by omega
    have n1 : ∀ j, ¬ q = S0 + 1 + j ∨ 29 < 1 + j := fun j => by omega
    simp [gZ, gI5, gI6, gI0, gI2, xF, lG, mF, oF, xE, mE, va_up, xoU, xoP, xoA, moM, kZ, mZ0, oZ, hr, h0, h1, h2, h3, h4, h5, h6, h7, h8, h9, h10, h11, h12, h13, h14, h15, h16, h17, h18, h19, h20, h21, h22, h23, h24, h25, h26, h27, h28, h29, Nat.add_assoc]
