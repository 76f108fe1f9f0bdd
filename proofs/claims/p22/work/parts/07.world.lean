/-! THE CLASS' WORLD. k.1: ints by (key, place): 0 copyCount 1 requestCount 2 day 3 post.size (place 0); 4 debts 5 homeCopies 6 freeLoans (rows); 10.. a Copy's fields by its address; 20.. a Request's; 30.. a Sent's. k.2.1: references: 0 copies 1 requests 2 waiting (rows); 22 Request.copy; 32 Sent.copy 33 Sent.request. k.2.2: what lies at an address: 1 Copy, 3 Request, 4 Sent. -/
abbrev kS : Type := (Nat → Nat → Int32) × (Nat → Nat → Option Nat) × (Nat → Nat)
def kset (k : kS) (a i : Nat) (v : Int32) : kS := (fun b => if b = a then upd (k.1 b) i v else k.1 b, k.2)
def kptr (k : kS) (a i : Nat) (v : Option Nat) : kS := (k.1, fun b => if b = a then va_up (k.2.1 b) i v else k.2.1 b, k.2.2)
def knew (k : kS) (q t : Nat) : kS := (fun b => if 10 ≤ b then upd (k.1 b) q 0 else k.1 b, fun b => if 10 ≤ b then va_up (k.2.1 b) q none else k.2.1 b, va_up k.2.2 q t)
def xoU (S0 : Nat) (k : kS) : List Value := [.ref (S0 + 1), .ref (S0 + 2), .ref (S0 + 3), .ref (S0 + 5), .int (k.1 0 0), .int (k.1 1 0), .int (k.1 2 0)]
def xoP (S0 : Nat) (k : kS) : List Value := [.ref (S0 + 4), .int (k.1 3 0)]
def xoA (S0 : Nat) : List Value := [.ref (S0 + 6), .ref (S0 + 7), .ref (S0 + 8)]
def xoC (k : kS) (c : Nat) : List Value := [.int (k.1 10 c), .int (k.1 11 c), .int (k.1 12 c), .int (k.1 13 c), .int (k.1 14 c), .int (k.1 15 c), .int (k.1 16 c), .int (k.1 17 c)]
def xoR (k : kS) (c : Nat) : List Value := [.int (k.1 20 c), .int (k.1 21 c), va_rf (k.2.1 22 c), .int (k.1 23 c), .int (k.1 24 c), .int (k.1 25 c), .int (k.1 26 c)]
def xoS (k : kS) (c : Nat) : List Value := [.int (k.1 30 c), .int (k.1 31 c), va_rf (k.2.1 32 c), va_rf (k.2.1 33 c)]
def xE (D : zD) (S0 : Nat) (k : kS) : zF := fun q =>
  if q = S0 then some (.inr (5, xoU S0 k))
  else if q = S0 + 1 then some (.inl (D.2.2.1, 20, .inr (.inr (.inr (.inr (k.2.1 0))))))
  else if q = S0 + 2 then some (.inl (D.2.2.2.1, 40, .inr (.inr (.inr (.inr (k.2.1 1))))))
  else if q = S0 + 3 then some (.inr (2, xoP S0 k))
  else if q = S0 + 4 then some (.inl (D.2.2.2.2.1, 552, .inr (.inr (.inr (.inr (k.2.1 2))))))
  else if q = S0 + 5 then some (.inr (0, xoA S0))
  else if q = S0 + 6 then some (.inl (D.2.1, 36, .inl (k.1 4)))
  else if q = S0 + 7 then some (.inl (D.2.1, 6, .inl (k.1 5)))
  else if q = S0 + 8 then some (.inl (D.2.1, 6, .inl (k.1 6)))
  else if k.2.2 q = 1 then some (.inr (1, xoC k q))
  else if k.2.2 q = 3 then some (.inr (3, xoR k q))
  else if k.2.2 q = 4 then some (.inr (4, xoS k q))
  else none
def xF (D : zD) (S0 : Nat) (g : zF) (k : kS) : zF := fun q => if S0 + 9 ≤ q ∧ k.2.2 q = 0 then g q else xE D S0 k q
/-- references point to what their types say -/
def kT (k : kS) : Prop := (∀ i c, k.2.1 0 i = some c → k.2.2 c = 1) ∧ (∀ i c, k.2.1 1 i = some c → k.2.2 c = 3) ∧ (∀ i c, k.2.1 2 i = some c → k.2.2 c = 4) ∧ (∀ r c, k.2.2 r = 3 → k.2.1 22 r = some c → k.2.2 c = 1) ∧ (∀ r c, k.2.2 r = 4 → k.2.1 32 r = some c → k.2.2 c = 1) ∧ (∀ r c, k.2.2 r = 4 → k.2.1 33 r = some c → k.2.2 c = 3)
/-- what was there is there still -/
def kle (k0 k : kS) : Prop := ∀ a, k0.2.2 a ≠ 0 → k.2.2 a = k0.2.2 a
theorem kle_rf (k : kS) : kle k k := fun _ _ => rfl
theorem kle_tr {a b c : kS} (h1 : kle a b) (h2 : kle b c) : kle a c := fun q h => (h2 q (by rw [h1 q h]; exact h)).trans (h1 q h)
theorem kle_1 {a b : kS} {c : Nat} (h : kle a b) (hc : a.2.2 c = 1) : b.2.2 c = 1 := (h c (by rw [hc]; decide)).trans hc
theorem kle_3 {a b : kS} {c : Nat} (h : kle a b) (hc : a.2.2 c = 3) : b.2.2 c = 3 := (h c (by rw [hc]; decide)).trans hc
theorem kle_4 {a b : kS} {c : Nat} (h : kle a b) (hc : a.2.2 c = 4) : b.2.2 c = 4 := (h c (by rw [hc]; decide)).trans hc
def kL (S0 : Nat) (g : zF) (k : kS) : Prop := ∀ q, k.2.2 q ≠ 0 → S0 + 9 ≤ q ∧ (k.2.2 q = 1 ∨ k.2.2 q = 3 ∨ k.2.2 q = 4) ∧ g q = none
def xR (D : zD) (S0 : Nat) (g : zF) (k0 k : kS) (n : Nat) (f : zF) : Prop := f = xF D S0 g k ∧ S0 + 9 ≤ n ∧ kT k ∧ kL S0 g k ∧ kle k0 k
section XW
variable {D : zD} {S0 : Nat} {g : zF} {k0 k : kS}
theorem xR_mono (n n' : Nat) (f : zF) (h : xR D S0 g k0 k n f) (hn : n ≤ n') : xR D S0 g k0 k n' f := ⟨h.1, Nat.le_trans h.2.1 hn, h.2.2⟩
theorem xR_tr {k1 : kS} (h : kle k0 k) (n : Nat) (f : zF) (h2 : xR D S0 g k k1 n f) : xR D S0 g k0 k1 n f := ⟨h2.1, h2.2.1, h2.2.2.1, h2.2.2.2.1, kle_tr h h2.2.2.2.2⟩
theorem xW_kle {H0 H : Heap} {locs : List Loc} (h : zW D S0 (xR D S0 g k0 k) H0 H locs) : kle k0 k := by
  obtain ⟨f, -, -, -, h4⟩ := h
  exact h4.2.2.2.2
theorem xW_T {H0 H : Heap} {locs : List Loc} (h : zW D S0 (xR D S0 g k0 k) H0 H locs) : kT k := by
  obtain ⟨f, -, -, -, h4⟩ := h
  exact h4.2.2.1
theorem xW_start {H0 H : Heap} {locs : List Loc} (h : zW D S0 (xR D S0 g k0 k) H0 H locs) : zW D S0 (xR D S0 g k k) H0 H locs := h.mono (fun n f q => ⟨q.1, q.2.1, q.2.2.1, q.2.2.2.1, kle_rf _⟩)
theorem xC_U (n : Nat) (f : zF) (h : xR D S0 g k0 k n f) : f (S0) = some (.inr (5, xoU S0 k)) := by
  rw [h.1]
  simp [xF, xE]
  intro hh
  omega
theorem xC_P (n : Nat) (f : zF) (h : xR D S0 g k0 k n f) : f (S0 + 3) = some (.inr (2, xoP S0 k)) := by
  rw [h.1]
  simp [xF, xE]
theorem xC_A (n : Nat) (f : zF) (h : xR D S0 g k0 k n f) : f (S0 + 5) = some (.inr (0, xoA S0)) := by
  rw [h.1]
  simp [xF, xE]
theorem xC_q0 (n : Nat) (f : zF) (h : xR D S0 g k0 k n f) : f (S0 + 1) = some (.inl (D.2.2.1, 20, .inr (.inr (.inr (.inr (k.2.1 0)))))) := by
  rw [h.1]
  simp [xF, xE]
theorem xC_q1 (n : Nat) (f : zF) (h : xR D S0 g k0 k n f) : f (S0 + 2) = some (.inl (D.2.2.2.1, 40, .inr (.inr (.inr (.inr (k.2.1 1)))))) := by
  rw [h.1]
  simp [xF, xE]
theorem xC_q2 (n : Nat) (f : zF) (h : xR D S0 g k0 k n f) : f (S0 + 4) = some (.inl (D.2.2.2.2.1, 552, .inr (.inr (.inr (.inr (k.2.1 2)))))) := by
  rw [h.1]
  simp [xF, xE]
theorem xC_a4 (n : Nat) (f : zF) (h : xR D S0 g k0 k n f) : f (S0 + 6) = some (.inl (D.2.1, 36, .inl (k.1 4))) := by
  rw [h.1]
  simp [xF, xE]
theorem xC_a5 (n : Nat) (f : zF) (h : xR D S0 g k0 k n f) : f (S0 + 7) = some (.inl (D.2.1, 6, .inl (k.1 5))) := by
  rw [h.1]
  simp [xF, xE]
theorem xC_a6 (n : Nat) (f : zF) (h : xR D S0 g k0 k n f) : f (S0 + 8) = some (.inl (D.2.1, 6, .inl (k.1 6))) := by
  rw [h.1]
  simp [xF, xE]
theorem xC_C {c : Nat} (hc : k.2.2 c = 1) (n : Nat) (f : zF) (h : xR D S0 g k0 k n f) : f c = some (.inr (1, xoC k c)) := by
  have hl := (h.2.2.2.1 c (by rw [hc]; decide)).1
  rw [h.1]
  simp only [xF, xE]
  rw [if_neg (fun h9 => absurd (hc.symm.trans h9.2) (by decide)), if_neg (by omega), if_neg (by omega), if_neg (by omega), if_neg (by omega), if_neg (by omega), if_neg (by omega), if_neg (by omega), if_neg (by omega), if_neg (by omega)]
  simp [hc]
theorem xC_R {c : Nat} (hc : k.2.2 c = 3) (n : Nat) (f : zF) (h : xR D S0 g k0 k n f) : f c = some (.inr (3, xoR k c)) := by
  have hl := (h.2.2.2.1 c (by rw [hc]; decide)).1
  rw [h.1]
  simp only [xF, xE]
  rw [if_neg (fun h9 => absurd (hc.symm.trans h9.2) (by decide)), if_neg (by omega), if_neg (by omega), if_neg (by omega), if_neg (by omega), if_neg (by omega), if_neg (by omega), if_neg (by omega), if_neg (by omega), if_neg (by omega)]
  simp [hc]
theorem xC_S {c : Nat} (hc : k.2.2 c = 4) (n : Nat) (f : zF) (h : xR D S0 g k0 k n f) : f c = some (.inr (4, xoS k c)) := by
  have hl := (h.2.2.2.1 c (by rw [hc]; decide)).1
  rw [h.1]
  simp only [xF, xE]
  rw [if_neg (fun h9 => absurd (hc.symm.trans h9.2) (by decide)), if_neg (by omega), if_neg (by omega), if_neg (by omega), if_neg (by omega), if_neg (by omega), if_neg (by omega), if_neg (by omega), if_neg (by omega), if_neg (by omega)]
  simp [hc]
theorem xP_U4 {v : Int32} (n : Nat) (f : zF) (h : xR D S0 g k0 k n f) : xR D S0 g k0 (kset k 0 0 v) n (va_up f (S0) (some (.inr (5, (xoU S0 k).set 4 (.int v))))) := by
  refine ⟨?_, h.2.1, h.2.2.1, h.2.2.2.1, h.2.2.2.2⟩
  rw [h.1]
  funext q
  by_cases hq : q = S0
  · subst hq
    simp [xF, xE, xoU, xoP, xoA, xoC, xoR, xoS, kset, kptr, upd, va_up]
    intro hh
    omega
  · simp [xF, xE, xoU, xoP, xoA, xoC, xoR, xoS, kset, kptr, upd, va_up, hq]
theorem xP_U5 {v : Int32} (n : Nat) (f : zF) (h : xR D S0 g k0 k n f) : xR D S0 g k0 (kset k 1 0 v) n (va_up f (S0) (some (.inr (5, (xoU S0 k).set 5 (.int v))))) := by
  refine ⟨?_, h.2.1, h.2.2.1, h.2.2.2.1, h.2.2.2.2⟩
  rw [h.1]
  funext q
  by_cases hq : q = S0
  · subst hq
    simp [xF, xE, xoU, xoP, xoA, xoC, xoR, xoS, kset, kptr, upd, va_up]
    intro hh
    omega
  · simp [xF, xE, xoU, xoP, xoA, xoC, xoR, xoS, kset, kptr, upd, va_up, hq]
theorem xP_U6 {v : Int32} (n : Nat) (f : zF) (h : xR D S0 g k0 k n f) : xR D S0 g k0 (kset k 2 0 v) n (va_up f (S0) (some (.inr (5, (xoU S0 k).set 6 (.int v))))) := by
  refine ⟨?_, h.2.1, h.2.2.1, h.2.2.2.1, h.2.2.2.2⟩
  rw [h.1]
  funext q
  by_cases hq : q = S0
  · subst hq
    simp [xF, xE, xoU, xoP, xoA, xoC, xoR, xoS, kset, kptr, upd, va_up]
    intro hh
    omega
  · simp [xF, xE, xoU, xoP, xoA, xoC, xoR, xoS, kset, kptr, upd, va_up, hq]
theorem xP_P1 {v : Int32} (n : Nat) (f : zF) (h : xR D S0 g k0 k n f) : xR D S0 g k0 (kset k 3 0 v) n (va_up f (S0 + 3) (some (.inr (2, (xoP S0 k).set 1 (.int v))))) := by
  refine ⟨?_, h.2.1, h.2.2.1, h.2.2.2.1, h.2.2.2.2⟩
  rw [h.1]
  funext q
  by_cases hq : q = S0 + 3
  · subst hq
    simp [xF, xE, xoU, xoP, xoA, xoC, xoR, xoS, kset, kptr, upd, va_up]
  · simp [xF, xE, xoU, xoP, xoA, xoC, xoR, xoS, kset, kptr, upd, va_up, hq]
theorem xP_a4 {i : Nat} {v : Int32} (n : Nat) (f : zF) (h : xR D S0 g k0 k n f) : xR D S0 g k0 (kset k 4 i v) n (va_up f (S0 + 6) (some (.inl (D.2.1, 36, .inl (upd (k.1 4) i v))))) := by
  refine ⟨?_, h.2.1, h.2.2.1, h.2.2.2.1, h.2.2.2.2⟩
  rw [h.1]
  funext q
  by_cases hq : q = S0 + 6
  · subst hq
    simp [xF, xE, kset, va_up]
  · simp [xF, xE, xoU, xoP, xoA, xoC, xoR, xoS, kset, va_up, hq]
theorem xP_a5 {i : Nat} {v : Int32} (n : Nat) (f : zF) (h : xR D S0 g k0 k n f) : xR D S0 g k0 (kset k 5 i v) n (va_up f (S0 + 7) (some (.inl (D.2.1, 6, .inl (upd (k.1 5) i v))))) := by
  refine ⟨?_, h.2.1, h.2.2.1, h.2.2.2.1, h.2.2.2.2⟩
  rw [h.1]
  funext q
  by_cases hq : q = S0 + 7
  · subst hq
    simp [xF, xE, kset, va_up]
  · simp [xF, xE, xoU, xoP, xoA, xoC, xoR, xoS, kset, va_up, hq]
theorem xP_a6 {i : Nat} {v : Int32} (n : Nat) (f : zF) (h : xR D S0 g k0 k n f) : xR D S0 g k0 (kset k 6 i v) n (va_up f (S0 + 8) (some (.inl (D.2.1, 6, .inl (upd (k.1 6) i v))))) := by
  refine ⟨?_, h.2.1, h.2.2.1, h.2.2.2.1, h.2.2.2.2⟩
  rw [h.1]
  funext q
  by_cases hq : q = S0 + 8
  · subst hq
    simp [xF, xE, kset, va_up]
  · simp [xF, xE, xoU, xoP, xoA, xoC, xoR, xoS, kset, va_up, hq]
theorem xP_q0 {i : Nat} {v : Option Nat} (hv : ∀ c, v = some c → k.2.2 c = 1) (n : Nat) (f : zF) (h : xR D S0 g k0 k n f) : xR D S0 g k0 (kptr k 0 i v) n (va_up f (S0 + 1) (some (.inl (D.2.2.1, 20, .inr (.inr (.inr (.inr (va_up (k.2.1 0) i v)))))))) := by
  refine ⟨?_, h.2.1, ⟨?_, h.2.2.1.2.1, h.2.2.1.2.2.1, h.2.2.1.2.2.2.1, h.2.2.1.2.2.2.2.1, h.2.2.1.2.2.2.2.2⟩, h.2.2.2.1, h.2.2.2.2⟩
  · rw [h.1]
    funext q
    by_cases hq : q = S0 + 1
    · subst hq
      simp [xF, xE, kptr, va_up]
    · simp [xF, xE, xoU, xoP, xoA, xoC, xoR, xoS, kptr, va_up, hq]
  · intro j c hj
    have hj' : va_up (k.2.1 0) i v j = some c := hj
    by_cases hji : j = i
    · rw [hji, va_up_self] at hj'
      exact hv c hj'
    · rw [va_up_ne _ _ hji] at hj'
      exact h.2.2.1.1 j c hj'
theorem xP_q1 {i : Nat} {v : Option Nat} (hv : ∀ c, v = some c → k.2.2 c = 3) (n : Nat) (f : zF) (h : xR D S0 g k0 k n f) : xR D S0 g k0 (kptr k 1 i v) n (va_up f (S0 + 2) (some (.inl (D.2.2.2.1, 40, .inr (.inr (.inr (.inr (va_up (k.2.1 1) i v)))))))) := by
  refine ⟨?_, h.2.1, ⟨h.2.2.1.1, ?_, h.2.2.1.2.2.1, h.2.2.1.2.2.2.1, h.2.2.1.2.2.2.2.1, h.2.2.1.2.2.2.2.2⟩, h.2.2.2.1, h.2.2.2.2⟩
  · rw [h.1]
    funext q
    by_cases hq : q = S0 + 2
    · subst hq
      simp [xF, xE, kptr, va_up]
    · simp [xF, xE, xoU, xoP, xoA, xoC, xoR, xoS, kptr, va_up, hq]
  · intro j c hj
    have hj' : va_up (k.2.1 1) i v j = some c := hj
    by_cases hji : j = i
    · rw [hji, va_up_self] at hj'
      exact hv c hj'
    · rw [va_up_ne _ _ hji] at hj'
      exact h.2.2.1.2.1 j c hj'
theorem xP_q2 {i : Nat} {v : Option Nat} (hv : ∀ c, v = some c → k.2.2 c = 4) (n : Nat) (f : zF) (h : xR D S0 g k0 k n f) : xR D S0 g k0 (kptr k 2 i v) n (va_up f (S0 + 4) (some (.inl (D.2.2.2.2.1, 552, .inr (.inr (.inr (.inr (va_up (k.2.1 2) i v)))))))) := by
  refine ⟨?_, h.2.1, ⟨h.2.2.1.1, h.2.2.1.2.1, ?_, h.2.2.1.2.2.2.1, h.2.2.1.2.2.2.2.1, h.2.2.1.2.2.2.2.2⟩, h.2.2.2.1, h.2.2.2.2⟩
  · rw [h.1]
    funext q
    by_cases hq : q = S0 + 4
    · subst hq
      simp [xF, xE, kptr, va_up]
    · simp [xF, xE, xoU, xoP, xoA, xoC, xoR, xoS, kptr, va_up, hq]
  · intro j c hj
    have hj' : va_up (k.2.1 2) i v j = some c := hj
    by_cases hji : j = i
    · rw [hji, va_up_self] at hj'
      exact hv c hj'
    · rw [va_up_ne _ _ hji] at hj'
      exact h.2.2.1.2.2.1 j c hj'
theorem xP_C0 {c : Nat} {v : Int32} (hc : k.2.2 c = 1) (n : Nat) (f : zF) (h : xR D S0 g k0 k n f) : xR D S0 g k0 (kset k 10 c v) n (va_up f c (some (.inr (1, (xoC k c).set 0 (.int v))))) := by
  have hl := (h.2.2.2.1 c (by rw [hc]; decide)).1
  refine ⟨?_, h.2.1, h.2.2.1, h.2.2.2.1, h.2.2.2.2⟩
  rw [h.1]
  funext q
  by_cases hq : q = c
  · subst hq
    rw [va_up_self]
    simp only [xF, xE]
    rw [if_neg (fun h9 => absurd (hc.symm.trans h9.2) (by decide)), if_neg (by omega), if_neg (by omega), if_neg (by omega), if_neg (by omega), if_neg (by omega), if_neg (by omega), if_neg (by omega), if_neg (by omega), if_neg (by omega)]
    simp [xF, xE, xoU, xoP, xoA, xoC, xoR, xoS, kset, kptr, upd, va_up, hc]
  · simp [xF, xE, xoU, xoP, xoA, xoC, xoR, xoS, kset, kptr, upd, va_up, hq]
theorem xP_C1 {c : Nat} {v : Int32} (hc : k.2.2 c = 1) (n : Nat) (f : zF) (h : xR D S0 g k0 k n f) : xR D S0 g k0 (kset k 11 c v) n (va_up f c (some (.inr (1, (xoC k c).set 1 (.int v))))) := by
  have hl := (h.2.2.2.1 c (by rw [hc]; decide)).1
  refine ⟨?_, h.2.1, h.2.2.1, h.2.2.2.1, h.2.2.2.2⟩
  rw [h.1]
  funext q
  by_cases hq : q = c
  · subst hq
    rw [va_up_self]
    simp only [xF, xE]
    rw [if_neg (fun h9 => absurd (hc.symm.trans h9.2) (by decide)), if_neg (by omega), if_neg (by omega), if_neg (by omega), if_neg (by omega), if_neg (by omega), if_neg (by omega), if_neg (by omega), if_neg (by omega), if_neg (by omega)]
    simp [xF, xE, xoU, xoP, xoA, xoC, xoR, xoS, kset, kptr, upd, va_up, hc]
  · simp [xF, xE, xoU, xoP, xoA, xoC, xoR, xoS, kset, kptr, upd, va_up, hq]
theorem xP_C2 {c : Nat} {v : Int32} (hc : k.2.2 c = 1) (n : Nat) (f : zF) (h : xR D S0 g k0 k n f) : xR D S0 g k0 (kset k 12 c v) n (va_up f c (some (.inr (1, (xoC k c).set 2 (.int v))))) := by
  have hl := (h.2.2.2.1 c (by rw [hc]; decide)).1
  refine ⟨?_, h.2.1, h.2.2.1, h.2.2.2.1, h.2.2.2.2⟩
  rw [h.1]
  funext q
  by_cases hq : q = c
  · subst hq
    rw [va_up_self]
    simp only [xF, xE]
    rw [if_neg (fun h9 => absurd (hc.symm.trans h9.2) (by decide)), if_neg (by omega), if_neg (by omega), if_neg (by omega), if_neg (by omega), if_neg (by omega), if_neg (by omega), if_neg (by omega), if_neg (by omega), if_neg (by omega)]
    simp [xF, xE, xoU, xoP, xoA, xoC, xoR, xoS, kset, kptr, upd, va_up, hc]
  · simp [xF, xE, xoU, xoP, xoA, xoC, xoR, xoS, kset, kptr, upd, va_up, hq]
theorem xP_C3 {c : Nat} {v : Int32} (hc : k.2.2 c = 1) (n : Nat) (f : zF) (h : xR D S0 g k0 k n f) : xR D S0 g k0 (kset k 13 c v) n (va_up f c (some (.inr (1, (xoC k c).set 3 (.int v))))) := by
  have hl := (h.2.2.2.1 c (by rw [hc]; decide)).1
  refine ⟨?_, h.2.1, h.2.2.1, h.2.2.2.1, h.2.2.2.2⟩
  rw [h.1]
  funext q
  by_cases hq : q = c
  · subst hq
    rw [va_up_self]
    simp only [xF, xE]
    rw [if_neg (fun h9 => absurd (hc.symm.trans h9.2) (by decide)), if_neg (by omega), if_neg (by omega), if_neg (by omega), if_neg (by omega), if_neg (by omega), if_neg (by omega), if_neg (by omega), if_neg (by omega), if_neg (by omega)]
    simp [xF, xE, xoU, xoP, xoA, xoC, xoR, xoS, kset, kptr, upd, va_up, hc]
  · simp [xF, xE, xoU, xoP, xoA, xoC, xoR, xoS, kset, kptr, upd, va_up, hq]
theorem xP_C4 {c : Nat} {v : Int32} (hc : k.2.2 c = 1) (n : Nat) (f : zF) (h : xR D S0 g k0 k n f) : xR D S0 g k0 (kset k 14 c v) n (va_up f c (some (.inr (1, (xoC k c).set 4 (.int v))))) := by
  have hl := (h.2.2.2.1 c (by rw [hc]; decide)).1
  refine ⟨?_, h.2.1, h.2.2.1, h.2.2.2.1, h.2.2.2.2⟩
  rw [h.1]
  funext q
  by_cases hq : q = c
  · subst hq
    rw [va_up_self]
    simp only [xF, xE]
    rw [if_neg (fun h9 => absurd (hc.symm.trans h9.2) (by decide)), if_neg (by omega), if_neg (by omega), if_neg (by omega), if_neg (by omega), if_neg (by omega), if_neg (by omega), if_neg (by omega), if_neg (by omega), if_neg (by omega)]
    simp [xF, xE, xoU, xoP, xoA, xoC, xoR, xoS, kset, kptr, upd, va_up, hc]
  · simp [xF, xE, xoU, xoP, xoA, xoC, xoR, xoS, kset, kptr, upd, va_up, hq]
theorem xP_C5 {c : Nat} {v : Int32} (hc : k.2.2 c = 1) (n : Nat) (f : zF) (h : xR D S0 g k0 k n f) : xR D S0 g k0 (kset k 15 c v) n (va_up f c (some (.inr (1, (xoC k c).set 5 (.int v))))) := by
  have hl := (h.2.2.2.1 c (by rw [hc]; decide)).1
  refine ⟨?_, h.2.1, h.2.2.1, h.2.2.2.1, h.2.2.2.2⟩
  rw [h.1]
  funext q
  by_cases hq : q = c
  · subst hq
    rw [va_up_self]
    simp only [xF, xE]
    rw [if_neg (fun h9 => absurd (hc.symm.trans h9.2) (by decide)), if_neg (by omega), if_neg (by omega), if_neg (by omega), if_neg (by omega), if_neg (by omega), if_neg (by omega), if_neg (by omega), if_neg (by omega), if_neg (by omega)]
    simp [xF, xE, xoU, xoP, xoA, xoC, xoR, xoS, kset, kptr, upd, va_up, hc]
  · simp [xF, xE, xoU, xoP, xoA, xoC, xoR, xoS, kset, kptr, upd, va_up, hq]
theorem xP_C6 {c : Nat} {v : Int32} (hc : k.2.2 c = 1) (n : Nat) (f : zF) (h : xR D S0 g k0 k n f) : xR D S0 g k0 (kset k 16 c v) n (va_up f c (some (.inr (1, (xoC k c).set 6 (.int v))))) := by
  have hl := (h.2.2.2.1 c (by rw [hc]; decide)).1
  refine ⟨?_, h.2.1, h.2.2.1, h.2.2.2.1, h.2.2.2.2⟩
  rw [h.1]
  funext q
  by_cases hq : q = c
  · subst hq
    rw [va_up_self]
    simp only [xF, xE]
    rw [if_neg (fun h9 => absurd (hc.symm.trans h9.2) (by decide)), if_neg (by omega), if_neg (by omega), if_neg (by omega), if_neg (by omega), if_neg (by omega), if_neg (by omega), if_neg (by omega), if_neg (by omega), if_neg (by omega)]
    simp [xF, xE, xoU, xoP, xoA, xoC, xoR, xoS, kset, kptr, upd, va_up, hc]
  · simp [xF, xE, xoU, xoP, xoA, xoC, xoR, xoS, kset, kptr, upd, va_up, hq]
theorem xP_C7 {c : Nat} {v : Int32} (hc : k.2.2 c = 1) (n : Nat) (f : zF) (h : xR D S0 g k0 k n f) : xR D S0 g k0 (kset k 17 c v) n (va_up f c (some (.inr (1, (xoC k c).set 7 (.int v))))) := by
  have hl := (h.2.2.2.1 c (by rw [hc]; decide)).1
  refine ⟨?_, h.2.1, h.2.2.1, h.2.2.2.1, h.2.2.2.2⟩
  rw [h.1]
  funext q
  by_cases hq : q = c
  · subst hq
    rw [va_up_self]
    simp only [xF, xE]
    rw [if_neg (fun h9 => absurd (hc.symm.trans h9.2) (by decide)), if_neg (by omega), if_neg (by omega), if_neg (by omega), if_neg (by omega), if_neg (by omega), if_neg (by omega), if_neg (by omega), if_neg (by omega), if_neg (by omega)]
    simp [xF, xE, xoU, xoP, xoA, xoC, xoR, xoS, kset, kptr, upd, va_up, hc]
  · simp [xF, xE, xoU, xoP, xoA, xoC, xoR, xoS, kset, kptr, upd, va_up, hq]
theorem xP_R0 {c : Nat} {v : Int32} (hc : k.2.2 c = 3) (n : Nat) (f : zF) (h : xR D S0 g k0 k n f) : xR D S0 g k0 (kset k 20 c v) n (va_up f c (some (.inr (3, (xoR k c).set 0 (.int v))))) := by
  have hl := (h.2.2.2.1 c (by rw [hc]; decide)).1
  refine ⟨?_, h.2.1, h.2.2.1, h.2.2.2.1, h.2.2.2.2⟩
  rw [h.1]
  funext q
  by_cases hq : q = c
  · subst hq
    rw [va_up_self]
    simp only [xF, xE]
    rw [if_neg (fun h9 => absurd (hc.symm.trans h9.2) (by decide)), if_neg (by omega), if_neg (by omega), if_neg (by omega), if_neg (by omega), if_neg (by omega), if_neg (by omega), if_neg (by omega), if_neg (by omega), if_neg (by omega)]
    simp [xF, xE, xoU, xoP, xoA, xoC, xoR, xoS, kset, kptr, upd, va_up, hc]
  · simp [xF, xE, xoU, xoP, xoA, xoC, xoR, xoS, kset, kptr, upd, va_up, hq]
theorem xP_R1 {c : Nat} {v : Int32} (hc : k.2.2 c = 3) (n : Nat) (f : zF) (h : xR D S0 g k0 k n f) : xR D S0 g k0 (kset k 21 c v) n (va_up f c (some (.inr (3, (xoR k c).set 1 (.int v))))) := by
  have hl := (h.2.2.2.1 c (by rw [hc]; decide)).1
  refine ⟨?_, h.2.1, h.2.2.1, h.2.2.2.1, h.2.2.2.2⟩
  rw [h.1]
  funext q
  by_cases hq : q = c
  · subst hq
    rw [va_up_self]
    simp only [xF, xE]
    rw [if_neg (fun h9 => absurd (hc.symm.trans h9.2) (by decide)), if_neg (by omega), if_neg (by omega), if_neg (by omega), if_neg (by omega), if_neg (by omega), if_neg (by omega), if_neg (by omega), if_neg (by omega), if_neg (by omega)]
    simp [xF, xE, xoU, xoP, xoA, xoC, xoR, xoS, kset, kptr, upd, va_up, hc]
  · simp [xF, xE, xoU, xoP, xoA, xoC, xoR, xoS, kset, kptr, upd, va_up, hq]
theorem xP_R3 {c : Nat} {v : Int32} (hc : k.2.2 c = 3) (n : Nat) (f : zF) (h : xR D S0 g k0 k n f) : xR D S0 g k0 (kset k 23 c v) n (va_up f c (some (.inr (3, (xoR k c).set 3 (.int v))))) := by
  have hl := (h.2.2.2.1 c (by rw [hc]; decide)).1
  refine ⟨?_, h.2.1, h.2.2.1, h.2.2.2.1, h.2.2.2.2⟩
  rw [h.1]
  funext q
  by_cases hq : q = c
  · subst hq
    rw [va_up_self]
    simp only [xF, xE]
    rw [if_neg (fun h9 => absurd (hc.symm.trans h9.2) (by decide)), if_neg (by omega), if_neg (by omega), if_neg (by omega), if_neg (by omega), if_neg (by omega), if_neg (by omega), if_neg (by omega), if_neg (by omega), if_neg (by omega)]
    simp [xF, xE, xoU, xoP, xoA, xoC, xoR, xoS, kset, kptr, upd, va_up, hc]
  · simp [xF, xE, xoU, xoP, xoA, xoC, xoR, xoS, kset, kptr, upd, va_up, hq]
theorem xP_R4 {c : Nat} {v : Int32} (hc : k.2.2 c = 3) (n : Nat) (f : zF) (h : xR D S0 g k0 k n f) : xR D S0 g k0 (kset k 24 c v) n (va_up f c (some (.inr (3, (xoR k c).set 4 (.int v))))) := by
  have hl := (h.2.2.2.1 c (by rw [hc]; decide)).1
  refine ⟨?_, h.2.1, h.2.2.1, h.2.2.2.1, h.2.2.2.2⟩
  rw [h.1]
  funext q
  by_cases hq : q = c
  · subst hq
    rw [va_up_self]
    simp only [xF, xE]
    rw [if_neg (fun h9 => absurd (hc.symm.trans h9.2) (by decide)), if_neg (by omega), if_neg (by omega), if_neg (by omega), if_neg (by omega), if_neg (by omega), if_neg (by omega), if_neg (by omega), if_neg (by omega), if_neg (by omega)]
    simp [xF, xE, xoU, xoP, xoA, xoC, xoR, xoS, kset, kptr, upd, va_up, hc]
  · simp [xF, xE, xoU, xoP, xoA, xoC, xoR, xoS, kset, kptr, upd, va_up, hq]
theorem xP_R5 {c : Nat} {v : Int32} (hc : k.2.2 c = 3) (n : Nat) (f : zF) (h : xR D S0 g k0 k n f) : xR D S0 g k0 (kset k 25 c v) n (va_up f c (some (.inr (3, (xoR k c).set 5 (.int v))))) := by
  have hl := (h.2.2.2.1 c (by rw [hc]; decide)).1
  refine ⟨?_, h.2.1, h.2.2.1, h.2.2.2.1, h.2.2.2.2⟩
  rw [h.1]
  funext q
  by_cases hq : q = c
  · subst hq
    rw [va_up_self]
    simp only [xF, xE]
    rw [if_neg (fun h9 => absurd (hc.symm.trans h9.2) (by decide)), if_neg (by omega), if_neg (by omega), if_neg (by omega), if_neg (by omega), if_neg (by omega), if_neg (by omega), if_neg (by omega), if_neg (by omega), if_neg (by omega)]
    simp [xF, xE, xoU, xoP, xoA, xoC, xoR, xoS, kset, kptr, upd, va_up, hc]
  · simp [xF, xE, xoU, xoP, xoA, xoC, xoR, xoS, kset, kptr, upd, va_up, hq]
theorem xP_R6 {c : Nat} {v : Int32} (hc : k.2.2 c = 3) (n : Nat) (f : zF) (h : xR D S0 g k0 k n f) : xR D S0 g k0 (kset k 26 c v) n (va_up f c (some (.inr (3, (xoR k c).set 6 (.int v))))) := by
  have hl := (h.2.2.2.1 c (by rw [hc]; decide)).1
  refine ⟨?_, h.2.1, h.2.2.1, h.2.2.2.1, h.2.2.2.2⟩
  rw [h.1]
  funext q
  by_cases hq : q = c
  · subst hq
    rw [va_up_self]
    simp only [xF, xE]
    rw [if_neg (fun h9 => absurd (hc.symm.trans h9.2) (by decide)), if_neg (by omega), if_neg (by omega), if_neg (by omega), if_neg (by omega), if_neg (by omega), if_neg (by omega), if_neg (by omega), if_neg (by omega), if_neg (by omega)]
    simp [xF, xE, xoU, xoP, xoA, xoC, xoR, xoS, kset, kptr, upd, va_up, hc]
  · simp [xF, xE, xoU, xoP, xoA, xoC, xoR, xoS, kset, kptr, upd, va_up, hq]
theorem xP_S0 {c : Nat} {v : Int32} (hc : k.2.2 c = 4) (n : Nat) (f : zF) (h : xR D S0 g k0 k n f) : xR D S0 g k0 (kset k 30 c v) n (va_up f c (some (.inr (4, (xoS k c).set 0 (.int v))))) := by
  have hl := (h.2.2.2.1 c (by rw [hc]; decide)).1
  refine ⟨?_, h.2.1, h.2.2.1, h.2.2.2.1, h.2.2.2.2⟩
  rw [h.1]
  funext q
  by_cases hq : q = c
  · subst hq
    rw [va_up_self]
    simp only [xF, xE]
    rw [if_neg (fun h9 => absurd (hc.symm.trans h9.2) (by decide)), if_neg (by omega), if_neg (by omega), if_neg (by omega), if_neg (by omega), if_neg (by omega), if_neg (by omega), if_neg (by omega), if_neg (by omega), if_neg (by omega)]
    simp [xF, xE, xoU, xoP, xoA, xoC, xoR, xoS, kset, kptr, upd, va_up, hc]
  · simp [xF, xE, xoU, xoP, xoA, xoC, xoR, xoS, kset, kptr, upd, va_up, hq]
theorem xP_S1 {c : Nat} {v : Int32} (hc : k.2.2 c = 4) (n : Nat) (f : zF) (h : xR D S0 g k0 k n f) : xR D S0 g k0 (kset k 31 c v) n (va_up f c (some (.inr (4, (xoS k c).set 1 (.int v))))) := by
  have hl := (h.2.2.2.1 c (by rw [hc]; decide)).1
  refine ⟨?_, h.2.1, h.2.2.1, h.2.2.2.1, h.2.2.2.2⟩
  rw [h.1]
  funext q
  by_cases hq : q = c
  · subst hq
    rw [va_up_self]
    simp only [xF, xE]
    rw [if_neg (fun h9 => absurd (hc.symm.trans h9.2) (by decide)), if_neg (by omega), if_neg (by omega), if_neg (by omega), if_neg (by omega), if_neg (by omega), if_neg (by omega), if_neg (by omega), if_neg (by omega), if_neg (by omega)]
    simp [xF, xE, xoU, xoP, xoA, xoC, xoR, xoS, kset, kptr, upd, va_up, hc]
  · simp [xF, xE, xoU, xoP, xoA, xoC, xoR, xoS, kset, kptr, upd, va_up, hq]
theorem xP_R2 {c : Nat} {v : Option Nat} (hc : k.2.2 c = 3) (hv : ∀ b, v = some b → k.2.2 b = 1) (n : Nat) (f : zF) (h : xR D S0 g k0 k n f) : xR D S0 g k0 (kptr k 22 c v) n (va_up f c (some (.inr (3, (xoR k c).set 2 (va_rf v))))) := by
  have hl := (h.2.2.2.1 c (by rw [hc]; decide)).1
  refine ⟨?_, h.2.1, ⟨h.2.2.1.1, h.2.2.1.2.1, h.2.2.1.2.2.1, ?_, h.2.2.1.2.2.2.2.1, h.2.2.1.2.2.2.2.2⟩, h.2.2.2.1, h.2.2.2.2⟩
  · rw [h.1]
    funext q
    by_cases hq : q = c
    · subst hq
      rw [va_up_self]
      simp only [xF, xE]
      rw [if_neg (fun h9 => absurd (hc.symm.trans h9.2) (by decide)), if_neg (by omega), if_neg (by omega), if_neg (by omega), if_neg (by omega), if_neg (by omega), if_neg (by omega), if_neg (by omega), if_neg (by omega), if_neg (by omega)]
      simp [xF, xE, xoU, xoP, xoA, xoC, xoR, xoS, kset, kptr, upd, va_up, hc]
    · simp [xF, xE, xoU, xoP, xoA, xoC, xoR, xoS, kset, kptr, upd, va_up, hq]
  · intro j b hj1 hj
    have hj' : va_up (k.2.1 22) c v j = some b := hj
    by_cases hji : j = c
    · rw [hji, va_up_self] at hj'
      exact hv b hj'
    · rw [va_up_ne _ _ hji] at hj'
      exact h.2.2.1.2.2.2.1 j b hj1 hj'
theorem xP_S2 {c : Nat} {v : Option Nat} (hc : k.2.2 c = 4) (hv : ∀ b, v = some b → k.2.2 b = 1) (n : Nat) (f : zF) (h : xR D S0 g k0 k n f) : xR D S0 g k0 (kptr k 32 c v) n (va_up f c (some (.inr (4, (xoS k c).set 2 (va_rf v))))) := by
  have hl := (h.2.2.2.1 c (by rw [hc]; decide)).1
  refine ⟨?_, h.2.1, ⟨h.2.2.1.1, h.2.2.1.2.1, h.2.2.1.2.2.1, h.2.2.1.2.2.2.1, ?_, h.2.2.1.2.2.2.2.2⟩, h.2.2.2.1, h.2.2.2.2⟩
  · rw [h.1]
    funext q
    by_cases hq : q = c
    · subst hq
      rw [va_up_self]
      simp only [xF, xE]
      rw [if_neg (fun h9 => absurd (hc.symm.trans h9.2) (by decide)), if_neg (by omega), if_neg (by omega), if_neg (by omega), if_neg (by omega), if_neg (by omega), if_neg (by omega), if_neg (by omega), if_neg (by omega), if_neg (by omega)]
      simp [xF, xE, xoU, xoP, xoA, xoC, xoR, xoS, kset, kptr, upd, va_up, hc]
    · simp [xF, xE, xoU, xoP, xoA, xoC, xoR, xoS, kset, kptr, upd, va_up, hq]
  · intro j b hj1 hj
    have hj' : va_up (k.2.1 32) c v j = some b := hj
    by_cases hji : j = c
    · rw [hji, va_up_self] at hj'
      exact hv b hj'
    · rw [va_up_ne _ _ hji] at hj'
      exact h.2.2.1.2.2.2.2.1 j b hj1 hj'
theorem xP_S3 {c : Nat} {v : Option Nat} (hc : k.2.2 c = 4) (hv : ∀ b, v = some b → k.2.2 b = 3) (n : Nat) (f : zF) (h : xR D S0 g k0 k n f) : xR D S0 g k0 (kptr k 33 c v) n (va_up f c (some (.inr (4, (xoS k c).set 3 (va_rf v))))) := by
  have hl := (h.2.2.2.1 c (by rw [hc]; decide)).1
  refine ⟨?_, h.2.1, ⟨h.2.2.1.1, h.2.2.1.2.1, h.2.2.1.2.2.1, h.2.2.1.2.2.2.1, h.2.2.1.2.2.2.2.1, ?_⟩, h.2.2.2.1, h.2.2.2.2⟩
  · rw [h.1]
    funext q
    by_cases hq : q = c
    · subst hq
      rw [va_up_self]
      simp only [xF, xE]
      rw [if_neg (fun h9 => absurd (hc.symm.trans h9.2) (by decide)), if_neg (by omega), if_neg (by omega), if_neg (by omega), if_neg (by omega), if_neg (by omega), if_neg (by omega), if_neg (by omega), if_neg (by omega), if_neg (by omega)]
      simp [xF, xE, xoU, xoP, xoA, xoC, xoR, xoS, kset, kptr, upd, va_up, hc]
    · simp [xF, xE, xoU, xoP, xoA, xoC, xoR, xoS, kset, kptr, upd, va_up, hq]
  · intro j b hj1 hj
    have hj' : va_up (k.2.1 33) c v j = some b := hj
    by_cases hji : j = c
    · rw [hji, va_up_self] at hj'
      exact hv b hj'
    · rw [va_up_ne _ _ hji] at hj'
      exact h.2.2.1.2.2.2.2.2 j b hj1 hj'
theorem kT_new {q t : Nat} (h : kT k) (h0 : k.2.2 q = 0) : kT (knew k q t) := by
  have up : ∀ c, k.2.2 c ≠ 0 → (knew k q t).2.2 c = k.2.2 c := fun c hc => va_up_ne _ _ (fun e => hc (by rw [e]; exact h0))
  have hi : ∀ (a i c : Nat), 10 ≤ a → (knew k q t).2.1 a i = some c → i ≠ q ∧ k.2.1 a i = some c := by
    intro a i c ha hj
    simp only [knew, ha, if_true] at hj
    by_cases hji : i = q
    · rw [hji, va_up_self] at hj
      cases hj
    · rw [va_up_ne _ _ hji] at hj
      exact ⟨hji, hj⟩
  have kd : ∀ r, r ≠ q → (knew k q t).2.2 r = k.2.2 r := fun r hr => va_up_ne _ _ hr
  refine ⟨fun i c hj => ?_, fun i c hj => ?_, fun i c hj => ?_, fun i c hr hj => ?_, fun i c hr hj => ?_, fun i c hr hj => ?_⟩
  · have h2 := h.1 i c hj
    rw [up c (by rw [h2]; decide)]; exact h2
  · have h2 := h.2.1 i c hj
    rw [up c (by rw [h2]; decide)]; exact h2
  · have h2 := h.2.2.1 i c hj
    rw [up c (by rw [h2]; decide)]; exact h2
  · obtain ⟨n1, n2⟩ := hi 22 i c (by decide) hj
    have h2 := h.2.2.2.1 i c (by rw [← kd i n1]; exact hr) n2
    rw [up c (by rw [h2]; decide)]; exact h2
  · obtain ⟨n1, n2⟩ := hi 32 i c (by decide) hj
    have h2 := h.2.2.2.2.1 i c (by rw [← kd i n1]; exact hr) n2
    rw [up c (by rw [h2]; decide)]; exact h2
  · obtain ⟨n1, n2⟩ := hi 33 i c (by decide) hj
    have h2 := h.2.2.2.2.2 i c (by rw [← kd i n1]; exact hr) n2
    rw [up c (by rw [h2]; decide)]; exact h2
theorem kL_new {q t : Nat} (h : kL S0 g k) (hq : S0 + 9 ≤ q) (ht : t = 1 ∨ t = 3 ∨ t = 4) (hg : g q = none) : kL S0 g (knew k q t) := by
  intro c hc
  by_cases hcq : c = q
  · subst hcq
    have e : (knew k c t).2.2 c = t := va_up_self _ _ _
    rw [e]
    exact ⟨hq, ht, hg⟩
  · have e : (knew k q t).2.2 c = k.2.2 c := va_up_ne _ _ hcq
    rw [e] at hc ⊢
    exact h c hc
theorem kle_new {q t : Nat} (h : kle k0 k) (h0 : k.2.2 q = 0) : kle k0 (knew k q t) := by
  intro c hc
  have h1 := h c hc
  have hcq : c ≠ q := fun e => hc (by rw [← h1, e]; exact h0)
  exact (va_up_ne _ _ hcq).trans h1
theorem k_fresh {q n : Nat} {f : zF} (h : xR D S0 g k0 k n f) (hn : f q = none) : k.2.2 q = 0 := by
  by_cases h0 : k.2.2 q = 0
  · exact h0
  · rcases (h.2.2.2.1 q h0).2.1 with e | e | e
    · rw [xC_C e n f h] at hn; cases hn
    · rw [xC_R e n f h] at hn; cases hn
    · rw [xC_S e n f h] at hn; cases hn
theorem xN_C {q n : Nat} {f' : zF} (hq : S0 + 9 ≤ q) (h0 : k.2.2 q = 0) (h : ∃ f, xR D S0 g k0 k q f ∧ f q = none ∧ n = q + 1 ∧ f' = va_up f q (some (.inr (1, [.int 0, .int 0, .int 0, .int 0, .int 0, .int 0, .int 0, .int 0])))) : xR D S0 g k0 (knew k q 1) n f' := by
  obtain ⟨f, h, hn, rfl, rfl⟩ := h
  have hgq : g q = none := by
    rw [h.1] at hn
    simpa only [xF, if_pos (show S0 + 9 ≤ q ∧ k.2.2 q = 0 from ⟨hq, h0⟩)] using hn
  refine ⟨?_, by omega, kT_new h.2.2.1 h0, kL_new h.2.2.2.1 hq (by decide) hgq, kle_new h.2.2.2.2 h0⟩
  rw [h.1]
  funext a
  by_cases ha : a = q
  · subst ha
    rw [va_up_self]
    simp only [xF, xE]
    rw [if_neg (fun h9 => absurd ((va_up_self k.2.2 a _).symm.trans h9.2) (by decide)), if_neg (by omega), if_neg (by omega), if_neg (by omega), if_neg (by omega), if_neg (by omega), if_neg (by omega), if_neg (by omega), if_neg (by omega), if_neg (by omega)]
    simp [xoC, knew, upd, va_up, va_rf]
  · simp [xF, xE, xoU, xoP, xoA, xoC, xoR, xoS, knew, upd, va_up, ha]
theorem xN_R {q n : Nat} {f' : zF} (hq : S0 + 9 ≤ q) (h0 : k.2.2 q = 0) (h : ∃ f, xR D S0 g k0 k q f ∧ f q = none ∧ n = q + 1 ∧ f' = va_up f q (some (.inr (3, [.int 0, .int 0, .null, .int 0, .int 0, .int 0, .int 0])))) : xR D S0 g k0 (knew k q 3) n f' := by
  obtain ⟨f, h, hn, rfl, rfl⟩ := h
  have hgq : g q = none := by
    rw [h.1] at hn
    simpa only [xF, if_pos (show S0 + 9 ≤ q ∧ k.2.2 q = 0 from ⟨hq, h0⟩)] using hn
  refine ⟨?_, by omega, kT_new h.2.2.1 h0, kL_new h.2.2.2.1 hq (by decide) hgq, kle_new h.2.2.2.2 h0⟩
  rw [h.1]
  funext a
  by_cases ha : a = q
  · subst ha
    rw [va_up_self]
    simp only [xF, xE]
    rw [if_neg (fun h9 => absurd ((va_up_self k.2.2 a _).symm.trans h9.2) (by decide)), if_neg (by omega), if_neg (by omega), if_neg (by omega), if_neg (by omega), if_neg (by omega), if_neg (by omega), if_neg (by omega), if_neg (by omega), if_neg (by omega)]
    simp [xoR, knew, upd, va_up, va_rf]
  · simp [xF, xE, xoU, xoP, xoA, xoC, xoR, xoS, knew, upd, va_up, ha]
theorem xN_S {q n : Nat} {f' : zF} (hq : S0 + 9 ≤ q) (h0 : k.2.2 q = 0) (h : ∃ f, xR D S0 g k0 k q f ∧ f q = none ∧ n = q + 1 ∧ f' = va_up f q (some (.inr (4, [.int 0, .int 0, .null, .null])))) : xR D S0 g k0 (knew k q 4) n f' := by
  obtain ⟨f, h, hn, rfl, rfl⟩ := h
  have hgq : g q = none := by
    rw [h.1] at hn
    simpa only [xF, if_pos (show S0 + 9 ≤ q ∧ k.2.2 q = 0 from ⟨hq, h0⟩)] using hn
  refine ⟨?_, by omega, kT_new h.2.2.1 h0, kL_new h.2.2.2.1 hq (by decide) hgq, kle_new h.2.2.2.2 h0⟩
  rw [h.1]
  funext a
  by_cases ha : a = q
  · subst ha
    rw [va_up_self]
    simp only [xF, xE]
    rw [if_neg (fun h9 => absurd ((va_up_self k.2.2 a _).symm.trans h9.2) (by decide)), if_neg (by omega), if_neg (by omega), if_neg (by omega), if_neg (by omega), if_neg (by omega), if_neg (by omega), if_neg (by omega), if_neg (by omega), if_neg (by omega)]
    simp [xoS, knew, upd, va_up, va_rf]
  · simp [xF, xE, xoU, xoP, xoA, xoC, xoR, xoS, knew, upd, va_up, ha]
theorem xW_sz {H0 H : Heap} {locs : List Loc} (h : zW D S0 (xR D S0 g k0 k) H0 H locs) : S0 + 9 ≤ H.size := by
  obtain ⟨f, -, -, -, h4⟩ := h
  exact h4.2.1
theorem knew_k {q t t' c : Nat} (h0 : k.2.2 q = 0) (hc : k.2.2 c = t' + 1) : (knew k q t).2.2 c = t' + 1 := by
  have hn : c ≠ q := fun e => by rw [e, h0] at hc; omega
  exact (va_up_ne _ _ hn).trans hc
theorem knew_q (k : kS) (q t : Nat) : (knew k q t).2.2 q = t := va_up_self _ _ _
theorem xW_newC {q : Nat} {H0 H : Heap} {locs : List Loc} (hW : zW D S0 (fun n f' => ∃ f, xR D S0 g k0 k q f ∧ f q = none ∧ n = q + 1 ∧ f' = va_up f q (some (.inr (1, [.int 0, .int 0, .int 0, .int 0, .int 0, .int 0, .int 0, .int 0])))) H0 H locs) (hq : S0 + 9 ≤ q) : k.2.2 q = 0 ∧ zW D S0 (xR D S0 g k0 (knew k q 1)) H0 H locs := by
  have h0 : k.2.2 q = 0 := by
    obtain ⟨f', -, -, -, f, h1, h2, -⟩ := hW
    exact k_fresh h1 h2
  exact ⟨h0, hW.mono (fun n f' h => xN_C hq h0 h)⟩
theorem xW_newR {q : Nat} {H0 H : Heap} {locs : List Loc} (hW : zW D S0 (fun n f' => ∃ f, xR D S0 g k0 k q f ∧ f q = none ∧ n = q + 1 ∧ f' = va_up f q (some (.inr (3, [.int 0, .int 0, .null, .int 0, .int 0, .int 0, .int 0])))) H0 H locs) (hq : S0 + 9 ≤ q) : k.2.2 q = 0 ∧ zW D S0 (xR D S0 g k0 (knew k q 3)) H0 H locs := by
  have h0 : k.2.2 q = 0 := by
    obtain ⟨f', -, -, -, f, h1, h2, -⟩ := hW
    exact k_fresh h1 h2
  exact ⟨h0, hW.mono (fun n f' h => xN_R hq h0 h)⟩
theorem xW_newS {q : Nat} {H0 H : Heap} {locs : List Loc} (hW : zW D S0 (fun n f' => ∃ f, xR D S0 g k0 k q f ∧ f q = none ∧ n = q + 1 ∧ f' = va_up f q (some (.inr (4, [.int 0, .int 0, .null, .null])))) H0 H locs) (hq : S0 + 9 ≤ q) : k.2.2 q = 0 ∧ zW D S0 (xR D S0 g k0 (knew k q 4)) H0 H locs := by
  have h0 : k.2.2 q = 0 := by
    obtain ⟨f', -, -, -, f, h1, h2, -⟩ := hW
    exact k_fresh h1 h2
  exact ⟨h0, hW.mono (fun n f' h => xN_S hq h0 h)⟩
end XW
/-! THE SECOND PICTURE, numbers alone (nothing of the machine lies behind it): m by (field, index) -/
abbrev mS : Type := Nat → Nat → Int32
def mset (m : mS) (a i : Nat) (v : Int32) : mS := fun b => if b = a then upd (m b) i v else m b
/-! THE LAW'S OWN CELLS lie in the frame g -/
/-- at a lies a row of n ints f -/
def gA (D : zD) (S0 : Nat) (g : zF) (a n : Nat) (f : Nat → Int32) : Prop := S0 + 9 ≤ a ∧ g a = some (.inl (D.2.1, n, .inl f))
section GW
variable {D : zD} {S0 : Nat} {g : zF} {k0 k : kS}
theorem gC {a N : Nat} {r : Nat → Int32} (ha : gA D S0 g a N r) (n : Nat) (f : zF) (h : xR D S0 g k0 k n f) : f a = some (.inl (D.2.1, N, .inl r)) := by
  have h0 : k.2.2 a = 0 := by
    by_cases h0 : k.2.2 a = 0
    · exact h0
    · have h1 := (h.2.2.2.1 a h0).2.2
      rw [ha.2] at h1
      cases h1
  rw [h.1]
  show (if S0 + 9 ≤ a ∧ k.2.2 a = 0 then g a else _) = _
  rw [if_pos ⟨ha.1, h0⟩]
  exact ha.2
def gU (D : zD) (g : zF) (a n : Nat) (f : Nat → Int32) : zF := va_up g a (some (.inl (D.2.1, n, .inl f)))
theorem gU_self {a n : Nat} {f : Nat → Int32} (h : S0 + 9 ≤ a) : gA D S0 (gU D g a n f) a n f := ⟨h, va_up_self _ _ _⟩
theorem gU_ne {a b n N : Nat} {f r : Nat → Int32} (h : gA D S0 g b N r) (hn : b ≠ a) : gA D S0 (gU D g a n f) b N r := ⟨h.1, (va_up_ne _ _ hn).trans h.2⟩
theorem gU_up {a n : Nat} {f r : Nat → Int32} : va_up (gU D g a n f) a (some (.inl (D.2.1, n, .inl r))) = gU D g a n r := by
  funext q
  by_cases hq : q = a
  · subst hq
    rw [va_up_self]
    exact (va_up_self _ _ _).symm
  · rw [va_up_ne _ _ hq]
    exact (va_up_ne _ _ hq).trans (va_up_ne _ _ hq).symm
/-- a write into the law's row -/
theorem gP {a N : Nat} {r : Nat → Int32} {i : Nat} {v : Int32} (ha : gA D S0 g a N r) (n : Nat) (f : zF) (h : xR D S0 g k0 k n f) : xR D S0 (gU D g a N (upd r i v)) k0 k n (va_up f a (some (.inl (D.2.1, N, .inl (upd r i v))))) := by
  have h0 : k.2.2 a = 0 := by
    by_cases h0 : k.2.2 a = 0
    · exact h0
    · have h1 := (h.2.2.2.1 a h0).2.2
      rw [ha.2] at h1
      cases h1
  refine ⟨?_, h.2.1, h.2.2.1, fun q hq => ?_, h.2.2.2.2⟩
  · rw [h.1]
    funext q
    by_cases hq : q = a
    · subst hq
      rw [va_up_self]
      show _ = (if S0 + 9 ≤ q ∧ k.2.2 q = 0 then gU D g q N _ q else _)
      rw [if_pos ⟨ha.1, h0⟩]
      exact (va_up_self _ _ _).symm
    · rw [va_up_ne _ _ hq]
      show (if S0 + 9 ≤ q ∧ k.2.2 q = 0 then g q else _) = (if S0 + 9 ≤ q ∧ k.2.2 q = 0 then gU D g a N _ q else _)
      rw [show gU D g a N (upd r i v) q = g q from va_up_ne _ _ hq]
  · obtain ⟨h1, h2, h3⟩ := h.2.2.2.1 q hq
    have hn : q ≠ a := fun e => hq (by rw [e]; exact h0)
    exact ⟨h1, h2, (va_up_ne _ _ hn).trans h3⟩
/-- a new row -/
theorem gN {q n N : Nat} {f' : zF} (hq : S0 + 9 ≤ q) (h : ∃ f, xR D S0 g k0 k q f ∧ f q = none ∧ n = q + 1 ∧ f' = va_up f q (some (.inl (D.2.1, N, .inl (fun _ => 0))))) : g q = none ∧ xR D S0 (gU D g q N (fun _ => 0)) k0 k n f' := by
  obtain ⟨f, h, hn, rfl, rfl⟩ := h
  have h0 : k.2.2 q = 0 := k_fresh h hn
  have hgq : g q = none := by
    rw [h.1] at hn
    simpa only [xF, if_pos (show S0 + 9 ≤ q ∧ k.2.2 q = 0 from ⟨hq, h0⟩)] using hn
  refine ⟨hgq, ?_, by omega, h.2.2.1, fun b hb => ?_, h.2.2.2.2⟩
  · rw [h.1]
    funext b
    by_cases hb : b = q
    · subst hb
      rw [va_up_self]
      show _ = (if S0 + 9 ≤ b ∧ k.2.2 b = 0 then gU D g b N _ b else _)
      rw [if_pos ⟨hq, h0⟩]
      exact (va_up_self _ _ _).symm
    · rw [va_up_ne _ _ hb]
      show (if S0 + 9 ≤ b ∧ k.2.2 b = 0 then g b else _) = (if S0 + 9 ≤ b ∧ k.2.2 b = 0 then gU D g q N _ b else _)
      rw [show gU D g q N (fun _ => 0) b = g b from va_up_ne _ _ hb]
  · obtain ⟨h1, h2, h3⟩ := h.2.2.2.1 b hb
    have hn2 : b ≠ q := fun e => hb (by rw [e]; exact h0)
    exact ⟨h1, h2, (va_up_ne _ _ hn2).trans h3⟩
theorem gW_new {q N : Nat} {H0 H : Heap} {locs : List Loc} (hW : zW D S0 (fun n f' => ∃ f, xR D S0 g k0 k q f ∧ f q = none ∧ n = q + 1 ∧ f' = va_up f q (some (.inl (D.2.1, N, .inl (fun _ => 0))))) H0 H locs) (hq : S0 + 9 ≤ q) : g q = none ∧ zW D S0 (xR D S0 (gU D g q N (fun _ => 0)) k0 k) H0 H locs := by
  have h0 : g q = none := by
    obtain ⟨f', -, -, -, h⟩ := hW
    exact (gN hq h).1
  exact ⟨h0, hW.mono (fun n f' h => (gN hq h).2)⟩
end GW
