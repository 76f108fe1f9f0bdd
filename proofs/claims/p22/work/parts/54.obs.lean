/-! what the looking calls answer -/
def Ob (k : kS) (m : mS) (n r d : Nat) : Prop := ∃ (ca ra : Nat → Nat) (A QC : List Nat) (U E : Nat), Core k m n r d ca ra A QC U E
theorem rel_ob {c : Nat} {k : kS} {m : mS} (h : Rel c k m) : ∃ n r d, Ob k m n r d ∧ m 7 0 = nI n ∧ n ≤ 20 ∧ m 15 0 = nI r ∧ r ≤ 40 ∧ m 22 0 = nI d ∧ d ≤ 51200 := by
  obtain ⟨n, r, d, t, ca, ra, A, QC, h1, -⟩ := h
  have h2 := h1
  obtain ⟨⟨n1, n2, n3⟩, ⟨r1, r2, r3⟩, ⟨d1, d2, d3⟩, -⟩ := h2
  exact ⟨n, r, d, ⟨ca, ra, A, QC, _, _, h1⟩, n1, n3, r1, r3, d1, d3⟩
def fr (m : mS) (i : Nat) : Int32 := if m 2 i = m 0 i ∧ m 6 i = 0 then 1 else 0
def du (m : mS) (i : Nat) : Int32 := if m 10 i = 2 then m 12 i else -4
section OB
variable {S0 : Nat} {k : kS} {m : mS} {n r d i : Nat} {Q : Int32 → kS → Prop} {QX : String → kS → Prop}
theorem ob_hands (h : Ob k m n r d) (hi : i < n) (q : Q (m 3 i) k) : wX5_inHandsOf S0 k (nI i) Q QX := by
  obtain ⟨ca, ra, A, QC, U, E, ⟨⟨n1, n2, n3⟩, -, -, hC, -⟩⟩ := h
  obtain ⟨a1, a2, a3⟩ := hC.1 i hi
  refine sx_copy_y (by omega) a1 (bS ?_)
  rw [show k.1 13 (ca i) = m 3 i from a3.2.2.2.1]
  exact q
theorem ob_listed (h : Ob k m n r d) (hi : i < n) (q : Q (m 4 i) k) : wX5_listed S0 k (nI i) Q QX := by
  obtain ⟨ca, ra, A, QC, U, E, ⟨⟨n1, n2, n3⟩, -, -, hC, -⟩⟩ := h
  obtain ⟨a1, a2, a3⟩ := hC.1 i hi
  refine sx_copy_y (by omega) a1 (bS ?_)
  rw [show k.1 15 (ca i) = m 4 i from a3.2.2.2.2.1]
  exact q
theorem ob_free (h : Ob k m n r d) (hi : i < n) (q : Q (fr m i) k) : wX5_isFree S0 k (nI i) Q QX := by
  obtain ⟨ca, ra, A, QC, U, E, ⟨⟨n1, n2, n3⟩, -, -, hC, -⟩⟩ := h
  obtain ⟨a1, a2, a3⟩ := hC.1 i hi
  have hah := at_home hC hi
  have h17 : k.1 17 (ca i) = m 6 i := a3.2.2.2.2.2.2.1
  unfold fr at q
  refine sx_copy_y (by omega) a1 (bS ?_)
  by_cases e1 : k.1 13 (ca i) = k.1 11 (ca i) ∧ k.1 14 (ca i) = 0
  · refine at_home_y e1 (b1 ?_)
    by_cases e2 : m 6 i = 0
    · rw [if_pos ⟨hah.mp e1, e2⟩] at q
      exact bi (h17.trans e2) q
    · rw [if_neg (fun e => e2 e.2)] at q
      exact bn (by rw [h17]; exact e2) q
  · rw [if_neg (fun e => e1 (hah.mpr e.1))] at q
    exact at_home_n e1 (b0 q)
theorem ob_state (h : Ob k m n r d) (hi : i < r) (q : Q (m 10 i) k) : wX5_state S0 k (nI i) Q QX := by
  obtain ⟨ca, ra, A, QC, U, E, ⟨-, ⟨r1, r2, r3⟩, -, hC, hR, -⟩⟩ := h
  obtain ⟨a1, a2, a3⟩ := hR.1 i hi
  refine sx_req_y (by omega) a1 (bS ?_)
  rw [show k.1 23 (ra i) = m 10 i from a3.2.2.1]
  exact q
theorem ob_copyOf (h : Ob k m n r d) (hi : i < r) (q : Q (m 11 i) k) : wX5_copyOf S0 k (nI i) Q QX := by
  obtain ⟨ca, ra, A, QC, U, E, ⟨-, ⟨r1, r2, r3⟩, -, hC, hR, -⟩⟩ := h
  obtain ⟨a1, a2, a3⟩ := hR.1 i hi
  refine sx_req_y (by omega) a1 (bS ?_)
  rcases a3.2.2.2.2.2.2.2.2.2.2 with ⟨-, e1, e2⟩ | ⟨j, hj, e2, e1, -⟩
  · rw [e1]
    simp only at e2
    rw [e2] at q
    exact bN q
  · rw [e1]
    refine bS ?_
    simp only at e2
    rw [e2] at q
    rw [show k.1 10 (ca j) = nI j from (hC.1 j hj).2.2.1]
    exact q
theorem ob_due (h : Ob k m n r d) (hi : i < r) (q : Q (du m i) k) : wL_due S0 k (nI i) Q := by
  obtain ⟨ca, ra, A, QC, U, E, ⟨-, ⟨r1, r2, r3⟩, -, hC, hR, -⟩⟩ := h
  obtain ⟨a1, a2, a3⟩ := hR.1 i hi
  have h23 : k.1 23 (ra i) = m 10 i := a3.2.2.1
  unfold du at q
  unfold wL_due
  refine sx_req_y (by omega) a1 (bS ?_)
  by_cases e : m 10 i = 2
  · rw [if_pos e] at q
    refine bi (h23.trans e) ?_
    rw [show k.1 24 (ra i) = m 12 i from a3.2.2.2.1]
    exact q
  · rw [if_neg e] at q
    exact bn (h23.symm ▸ e) ⟨by decide, Or.inr ⟨rfl, q⟩⟩
theorem ob_due_n (h : Ob k m n r d) (hi : r ≤ i) (h40 : i < 1000) (q : Q (-2) k) : wL_due S0 k (nI i) Q := by
  obtain ⟨ca, ra, A, QC, U, E, ⟨-, ⟨r1, r2, r3⟩, -, hC, hR, -⟩⟩ := h
  unfold wL_due
  exact sx_req_n r3 (Or.inr (by rw [q_le (by omega) (by omega)]; exact hi)) (fun i h1 h2 => (hR.2.1 i h1 h2).1) (Or.inl ⟨rfl, q⟩)
theorem ob_stateOf_n (h : Ob k m n r d) (q : Q (-2) k) : wL_stateOf S0 k (-1) Q := by
  obtain ⟨ca, ra, A, QC, U, E, ⟨-, ⟨r1, r2, r3⟩, -, hC, hR, -⟩⟩ := h
  unfold wL_stateOf
  exact sx_req_n r3 (Or.inl (by decide)) (fun i h1 h2 => (hR.2.1 i h1 h2).1) ⟨rfl, q⟩
theorem ob_owes {a b : Nat} (h : Ob k m n r d) (ha : a < 6) (hb : b < 6) (q : Q (m 20 (6 * a + b)) k) : wX5_owes S0 k (nI a) (nI b) Q QX := by
  obtain ⟨ca, ra, A, QC, U, E, ⟨-, -, -, hC, hR, hA, -⟩⟩ := h
  refine sx_house_y ha (b1 (sx_house_y hb (b1 (sx_bal ha hb ?_))))
  rw [hA.1 a b ha hb]
  exact q
theorem ob_owed {a b : Nat} (h : Ob k m n r d) (ha : a < 6) (hb : b < 6) (q : Q (m 20 (6 * a + b)) k) : wL_owed S0 k (nI a) (nI b) Q := ob_owes h ha hb q
theorem ob_owed_n {b : Int32} (q : Q (-99) k) : wL_owed S0 k 6 b Q := by
  unfold wL_owed
  exact sx_house_n (Or.inr (by decide)) (b0 ⟨by decide, rfl, q⟩)
theorem ob_quota {a : Nat} (h : Ob k m n r d) (ha : a < 6) (q : Q (m 21 a) k) : wX5_quota S0 k (nI a) Q QX := by
  obtain ⟨ca, ra, A, QC, U, E, ⟨-, -, -, hC, hR, hA, -⟩⟩ := h
  refine sx_house_y ha (b1 (sx_house_y ha (b1 ⟨q_in ha (by decide), ?_⟩)))
  rw [q_cl (by omega), hA.2.2.2 a ha]
  exact q
theorem ob_today (h : Ob k m n r d) (q : Q (m 22 0) k) : wX5_today S0 k Q := by
  obtain ⟨ca, ra, A, QC, U, E, ⟨-, -, ⟨d1, d2, d3⟩, -⟩⟩ := h
  unfold wX5_today
  rw [d2, ← d1]
  exact q
/-- what a owes b is what b owes a, turned -/
theorem ob_anti {a b : Nat} (h : Ob k m n r d) (ha : a < 6) (hb : b < 6) : m 20 (6 * a + b) = -(m 20 (6 * b + a)) := by
  obtain ⟨ca, ra, A, QC, U, E, ⟨-, -, -, hC, hR, hA, -⟩⟩ := h
  rw [← hA.1 a b ha hb, ← hA.1 b a hb ha, Int32.neg_sub]
end OB
