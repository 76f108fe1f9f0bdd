/-! PURE: the simple calls -/
theorem at_home {k : kS} {m : mS} {n : Nat} {ca : Nat → Nat} (hC : pC k m n ca) {i : Nat} (hi : i < n) : (k.1 13 (ca i) = k.1 11 (ca i) ∧ k.1 14 (ca i) = 0) ↔ m 2 i = m 0 i := by
  obtain ⟨-, -, -, a1, -, a2, -, -, -, a3, ⟨h, hh, a4⟩, -⟩ := hC.1 i hi
  simp only at a1 a2 a3 a4
  rw [a1, a2]
  rcases a3 with ⟨b1, b2⟩ | ⟨b1, b2⟩
  · rw [b1, b2]
    exact ⟨fun e => e.1, fun e => ⟨e, rfl⟩⟩
  · rw [b1, b2, a4]
    exact ⟨fun e => absurd e.2 (by decide), fun e => absurd e.symm (q_m1 (by omega))⟩
theorem at_home_y {S0 : Nat} {k : kS} {c : Nat} {Q : Int32 → kS → Prop} (h : k.1 13 c = k.1 11 c ∧ k.1 14 c = 0) (q : Q 1 k) : wX1_isAtHome S0 k c Q := bi h.1 (bi h.2 q)
theorem at_home_n {S0 : Nat} {k : kS} {c : Nat} {Q : Int32 → kS → Prop} (h : ¬ (k.1 13 c = k.1 11 c ∧ k.1 14 c = 0)) (q : Q 0 k) : wX1_isAtHome S0 k c Q := ⟨fun e => ⟨fun e2 => absurd ⟨e, e2⟩ h, fun _ => q⟩, fun _ => q⟩
theorem free_both {S0 : Nat} {k : kS} {m : mS} {n : Nat} {ca : Nat → Nat} (hC : pC k m n ca) (hn : n ≤ 20) {i : Nat} (hi : i < n) :
    (((k.1 13 (ca i) = k.1 11 (ca i) ∧ k.1 14 (ca i) = 0) ∧ k.1 17 (ca i) = 0) ∧ (∀ Q2 : Int32 → mS → Prop, Q2 1 m → wX6_free m (nI i) Q2) ∧ (∀ Q : Int32 → kS → Prop, Q 1 k → wX1_canBeSent S0 k (ca i) Q)) ∨ ((∀ Q2 : Int32 → mS → Prop, Q2 0 m → wX6_free m (nI i) Q2) ∧ (∀ Q : Int32 → kS → Prop, Q 0 k → wX1_canBeSent S0 k (ca i) Q)) := by
  have hah := at_home hC hi
  have h17 : k.1 17 (ca i) = m 6 i := (hC.1 i hi).2.2.2.2.2.2.2.2.1
  have hin : vp_in (nI i) 20 := q_in (by omega) (by decide)
  by_cases h1 : k.1 13 (ca i) = k.1 11 (ca i) ∧ k.1 14 (ca i) = 0
  · by_cases h2 : k.1 17 (ca i) = 0
    · refine Or.inl ⟨⟨h1, h2⟩, fun Q2 q => ⟨hin, hin, ?_⟩, fun Q q => at_home_y h1 (b1 (bi h2 q))⟩
      rw [q_cl (by omega)]
      exact bi (hah.mp h1) ⟨hin, bi (h17 ▸ h2) q⟩
    · refine Or.inr ⟨fun Q2 q => ⟨hin, hin, ?_⟩, fun Q q => at_home_y h1 (b1 (bn h2 q))⟩
      rw [q_cl (by omega)]
      exact bi (hah.mp h1) ⟨hin, bn (h17 ▸ h2) q⟩
  · refine Or.inr ⟨fun Q2 q => ⟨hin, hin, ?_⟩, fun Q q => at_home_n h1 (b0 q)⟩
    rw [q_cl (by omega)]
    exact bn (fun e => h1 (hah.mpr e)) q
theorem op_listed {S0 c : Nat} {k : kS} {m : mS} (p : Int32) (h : Rel c k m) : OpI1 (Rel (c + 1)) "java/lang/IndexOutOfBoundsException" (wX6_listed m p) (wX5_listed S0 k p) := by
  have h' := h
  obtain ⟨n, r, d, t, ca, ra, A, QC, ⟨⟨c1, c2, c3⟩, -, -, hC, -⟩, -⟩ := h'
  rcases q_rng p n (by omega) with ⟨i, hi, rfl⟩ | ⟨hp, -⟩
  · obtain ⟨a1, a2, a3⟩ := hC.1 i hi
    refine ⟨m 4 i, mset m 23 0 0, fun Q2 hq => ?_, Or.inl ⟨rfl, fun Q QX hq => ?_⟩⟩
    · refine sm_copy_y c1 c3 hi (b1 (sm_holds0 (b0 ⟨q_in (by omega) (by decide), ?_⟩)))
      rw [q_cl (by omega)]
      exact hq
    · refine sx_copy_y (by omega) a1 (bS ?_)
      rw [show k.1 15 (ca i) = m 4 i from a3.2.2.2.2.1]
      exact hq k (rel_thr h 0)
  · refine ⟨-1, mset m 23 0 1, fun Q2 hq => ?_, Or.inr ⟨rfl, fun Q QX hq => ?_⟩⟩
    · exact sm_copy_n c1 c3 hp (b0 (sm_holds1 (b1 hq)))
    · exact sx_copy_n c3 hp (fun i h1 h2 => (hC.2 i h1 h2).1) (hq k (rel_thr h 1))
theorem op_isFree {S0 c : Nat} {k : kS} {m : mS} (p : Int32) (h : Rel c k m) : OpI1 (Rel (c + 1)) "java/lang/IndexOutOfBoundsException" (wX6_isFree m p) (wX5_isFree S0 k p) := by
  have h' := h
  obtain ⟨n, r, d, t, ca, ra, A, QC, ⟨⟨c1, c2, c3⟩, -, -, hC, -⟩, -⟩ := h'
  rcases q_rng p n (by omega) with ⟨i, hi, rfl⟩ | ⟨hp, -⟩
  · obtain ⟨a1, a2, a3⟩ := hC.1 i hi
    have hC0 : pC k (mset m 23 0 0) n ca := hC
    rcases free_both (S0 := S0) hC0 c3 hi with ⟨-, f6, f5⟩ | ⟨f6, f5⟩
    · exact ⟨1, mset m 23 0 0, fun Q2 hq => sm_copy_y c1 c3 hi (b1 (sm_holds0 (b0 (f6 _ (b1 hq))))), Or.inl ⟨rfl, fun Q QX hq => sx_copy_y (by omega) a1 (bS (f5 _ (hq k (rel_thr h 0))))⟩⟩
    · exact ⟨0, mset m 23 0 0, fun Q2 hq => sm_copy_y c1 c3 hi (b1 (sm_holds0 (b0 (f6 _ (b0 hq))))), Or.inl ⟨rfl, fun Q QX hq => sx_copy_y (by omega) a1 (bS (f5 _ (hq k (rel_thr h 0))))⟩⟩
  · refine ⟨0, mset m 23 0 1, fun Q2 hq => ?_, Or.inr ⟨rfl, fun Q QX hq => ?_⟩⟩
    · exact sm_copy_n c1 c3 hp (b0 (sm_holds1 (b1 hq)))
    · exact sx_copy_n c3 hp (fun i h1 h2 => (hC.2 i h1 h2).1) (hq k (rel_thr h 1))
theorem op_harm {S0 c : Nat} {k : kS} {m : mS} (p : Int32) (h : Rel c k m) : OpI (Rel (c + 1)) "java/lang/IndexOutOfBoundsException" (wX6_harm m p) (wX5_harm S0 k p) := by
  have h' := h
  obtain ⟨n, r, d, t, ca, ra, A, QC, ⟨⟨c1, c2, c3⟩, hr, hd, hC, hR, hA, hQ, hM⟩, hS, hL1, hL2, hL3, hL4⟩ := h'
  rcases q_rng p n (by omega) with ⟨i, hi, rfl⟩ | ⟨hp, -⟩
  · obtain ⟨a1, a2, a3⟩ := hC.1 i hi
    have hin : vp_in (nI i) 20 := q_in (by omega) (by decide)
    have h13 : k.1 13 (ca i) = m 3 i := a3.2.2.2.1
    have h16 : k.1 16 (ca i) = m 5 i := a3.2.2.2.2.2.1
    have hg5 : m 5 i = -1 ∨ ∃ h, h < 6 ∧ m 5 i = nI h := a3.2.2.2.2.2.2.2.2.2.2.1
    have hg3 : ∃ h, h < 6 ∧ m 3 i = nI h := a3.2.2.2.2.2.2.2.2.2.1
    rcases hg5 with hg5 | ⟨z, hz, hg5⟩
    · refine ⟨m 3 i, mset (mset m 23 0 0) 5 i (m 3 i), fun Q2 hq => ?_, Or.inl ⟨rfl, fun Q QX hq => ?_⟩⟩
      · refine sm_copy_y c1 c3 hi (b1 ⟨hin, ?_⟩)
        rw [q_cl (by omega), hg5]
        refine bi (by decide) (sm_holds0 (b0 ⟨hin, hin, ?_⟩))
        rintro m1 rfl
        exact ⟨hin, hq⟩
      · refine sx_copy_y (by omega) a1 (bS ?_)
        refine bi (by rw [h16, hg5]) (b0 ?_)
        rintro k1 rfl
        rw [show (kset k 16 (ca i) (k.1 13 (ca i))).1 16 (ca i) = m 3 i from (upd_s _ _ _).trans h13]
        refine hq _ ⟨n, r, d, t, ca, ra, A, QC, ⟨⟨c1, c2, c3⟩, hr, hd, ?_, hR, pA_mono (k := k) (m := m) hA (EB_step c t (x := 0) (by omega)), hQ, hM⟩, hS, hL1, by omega, hL3, Nat.le_trans hL4 (show c + Gr (m 10) r ≤ c + 1 + Gr (m 10) r by omega)⟩
        refine pC_step hC c3 hi rfl rfl (fun a _ _ q hq => ks_n _ _ _ _ hq) (fun a ha j hj => (ms_n _ _ _ _ hj).trans ?_) ?_
        · exact congrFun (ms_c m 23 0 0 (b := a) (by omega)) j
        · have e5 : mset (mset m 23 0 0) 5 i (m 3 i) 5 i = m 3 i := upd_s _ _ _
          have e16 : (kset k 16 (ca i) (k.1 13 (ca i))).1 16 (ca i) = k.1 13 (ca i) := upd_s _ _ _
          obtain ⟨w1, w2, w3, w4, w5, w6, w7, w8, w9, w10, w11, w12⟩ := a3
          exact ⟨w1, w2, w3, w4, w5, e16.trans (h13.trans e5.symm), w7, w8, w9, w10, Or.inr (by obtain ⟨z, z1, z2⟩ := hg3; exact ⟨z, z1, e5.trans z2⟩), w12⟩
    · refine ⟨-1, mset m 23 0 2, fun Q2 hq => ?_, Or.inr (Or.inr ⟨rfl, fun Q QX hq => ?_⟩)⟩
      · refine sm_copy_y c1 c3 hi (b1 ⟨hin, ?_⟩)
        rw [q_cl (by omega), hg5]
        exact bn (q_nn (by omega)) (sm_holds2 (b1 hq))
      · refine sx_copy_y (by omega) a1 (bS ?_)
        exact bn (by rw [h16, hg5]; exact q_m1 (by omega)) (b1 ⟨by decide, hq k (rel_thr h 2)⟩)
  · refine ⟨-1, mset m 23 0 1, fun Q2 hq => ?_, Or.inr (Or.inl ⟨rfl, fun Q QX hq => ?_⟩)⟩
    · exact sm_copy_n c1 c3 hp (b0 (sm_holds1 (b1 hq)))
    · exact sx_copy_n c3 hp (fun i h1 h2 => (hC.2 i h1 h2).1) (hq k (rel_thr h 1))
theorem op_state {S0 c : Nat} {k : kS} {m : mS} (p : Int32) (h : Rel c k m) : OpI1 (Rel (c + 1)) "java/lang/IndexOutOfBoundsException" (wX6_state m p) (wX5_state S0 k p) := by
  have h' := h
  obtain ⟨n, r, d, t, ca, ra, A, QC, ⟨-, ⟨c1, c2, c3⟩, -, hC, hR, -⟩, -⟩ := h'
  rcases q_rng p r (by omega) with ⟨i, hi, rfl⟩ | ⟨hp, -⟩
  · obtain ⟨a1, a2, a3⟩ := hR.1 i hi
    refine ⟨m 10 i, mset m 23 0 0, fun Q2 hq => ?_, Or.inl ⟨rfl, fun Q QX hq => ?_⟩⟩
    · refine sm_req_y c1 c3 hi (b1 (sm_holds0 (b0 ⟨q_in (by omega) (by decide), ?_⟩)))
      rw [q_cl (by omega)]
      exact hq
    · refine sx_req_y (by omega) a1 (bS ?_)
      rw [show k.1 23 (ra i) = m 10 i from a3.2.2.1]
      exact hq k (rel_thr h 0)
  · refine ⟨-1, mset m 23 0 1, fun Q2 hq => ?_, Or.inr ⟨rfl, fun Q QX hq => ?_⟩⟩
    · exact sm_req_n c1 c3 hp (b0 (sm_holds1 (b1 hq)))
    · exact sx_req_n c3 hp (fun i h1 h2 => (hR.2.1 i h1 h2).1) (hq k (rel_thr h 1))
theorem op_copyOf {S0 c : Nat} {k : kS} {m : mS} (p : Int32) (h : Rel c k m) : OpI1 (Rel (c + 1)) "java/lang/IndexOutOfBoundsException" (wX6_copyOf m p) (wX5_copyOf S0 k p) := by
  have h' := h
  obtain ⟨n, r, d, t, ca, ra, A, QC, ⟨-, ⟨c1, c2, c3⟩, -, hC, hR, -⟩, -⟩ := h'
  rcases q_rng p r (by omega) with ⟨i, hi, rfl⟩ | ⟨hp, -⟩
  · obtain ⟨a1, a2, a3⟩ := hR.1 i hi
    refine ⟨m 11 i, mset m 23 0 0, fun Q2 hq => ?_, Or.inl ⟨rfl, fun Q QX hq => ?_⟩⟩
    · refine sm_req_y c1 c3 hi (b1 (sm_holds0 (b0 ⟨q_in (by omega) (by decide), ?_⟩)))
      rw [q_cl (by omega)]
      exact hq
    · refine sx_req_y (by omega) a1 (bS ?_)
      rcases a3.2.2.2.2.2.2.2.2.2.2 with ⟨-, e1, e2⟩ | ⟨j, hj, e2, e1, -⟩
      · rw [e1]
        simp only at e2
        rw [e2] at hq
        exact bN (hq k (rel_thr h 0))
      · rw [e1]
        refine bS ?_
        simp only at e2
        rw [e2] at hq
        rw [show k.1 10 (ca j) = nI j from (hC.1 j hj).2.2.1]
        exact hq k (rel_thr h 0)
  · refine ⟨-1, mset m 23 0 1, fun Q2 hq => ?_, Or.inr ⟨rfl, fun Q QX hq => ?_⟩⟩
    · exact sm_req_n c1 c3 hp (b0 (sm_holds1 (b1 hq)))
    · exact sx_req_n c3 hp (fun i h1 h2 => (hR.2.1 i h1 h2).1) (hq k (rel_thr h 1))
theorem sm_ref_y {m : mS} {r i : Nat} {Q : Int32 → mS → Prop} (hn : m 15 0 = nI r) (h40 : r ≤ 40) (hi : i < r) (h2 : m 10 i = 2) (q : Q 0 m) : wX6_refuses m (nI i) Q := by
  refine sm_req_y hn h40 hi (b1 ⟨q_in (by omega) (by decide), ?_⟩)
  rw [q_cl (by omega)]
  exact bi h2 q
theorem sm_ref_2 {m : mS} {r i : Nat} {Q : Int32 → mS → Prop} (hn : m 15 0 = nI r) (h40 : r ≤ 40) (hi : i < r) (h2 : m 10 i ≠ 2) (q : Q 2 m) : wX6_refuses m (nI i) Q := by
  refine sm_req_y hn h40 hi (b1 ⟨q_in (by omega) (by decide), ?_⟩)
  rw [q_cl (by omega)]
  exact bn h2 q
theorem sm_ref_n {m : mS} {r : Nat} {p : Int32} {Q : Int32 → mS → Prop} (hn : m 15 0 = nI r) (h40 : r ≤ 40) (hp : p < 0 ∨ nI r ≤ p) (q : Q 1 m) : wX6_refuses m p Q := sm_req_n hn h40 hp (b0 q)
theorem op_due {S0 c : Nat} {k : kS} {m : mS} (p : Int32) (h : Rel c k m) : OpI (Rel (c + 1)) "java/lang/IndexOutOfBoundsException" (wX6_due m p) (wX5_due S0 k p) := by
  have h' := h
  obtain ⟨n, r, d, t, ca, ra, A, QC, ⟨-, ⟨c1, c2, c3⟩, -, hC, hR, -⟩, -⟩ := h'
  rcases q_rng p r (by omega) with ⟨i, hi, rfl⟩ | ⟨hp, -⟩
  · obtain ⟨a1, a2, a3⟩ := hR.1 i hi
    have h23 : k.1 23 (ra i) = m 10 i := a3.2.2.1
    by_cases h2 : m 10 i = 2
    · refine ⟨m 12 i, mset m 23 0 0, fun Q2 hq => ?_, Or.inl ⟨rfl, fun Q QX hq => ?_⟩⟩
      · refine sm_ref_y c1 c3 hi h2 (sm_holds0 (b0 ⟨q_in (by omega) (by decide), ?_⟩))
        rw [q_cl (by omega)]
        exact hq
      · refine sx_req_y (by omega) a1 (bS (bi (h23.trans h2) ?_))
        rw [show k.1 24 (ra i) = m 12 i from a3.2.2.2.1]
        exact hq k (rel_thr h 0)
    · refine ⟨-1, mset m 23 0 2, fun Q2 hq => ?_, Or.inr (Or.inr ⟨rfl, fun Q QX hq => ?_⟩)⟩
      · exact sm_ref_2 c1 c3 hi h2 (sm_holds2 (b1 hq))
      · exact sx_req_y (by omega) a1 (bS (bn (h23.symm ▸ h2) ⟨by decide, hq k (rel_thr h 2)⟩))
  · refine ⟨-1, mset m 23 0 1, fun Q2 hq => ?_, Or.inr (Or.inl ⟨rfl, fun Q QX hq => ?_⟩)⟩
    · exact sm_ref_n c1 c3 hp (sm_holds1 (b1 hq))
    · exact sx_req_n c3 hp (fun i h1 h2 => (hR.2.1 i h1 h2).1) (hq k (rel_thr h 1))
theorem ix6 : ∀ a, a < 6 → ∀ b, b < 6 → 6 * nI a + nI b = nI (6 * a + b) := by decide
theorem ix6' : ∀ a, a < 6 → ∀ b, b < 6 → nI a * 6 + nI b = nI (a * 6 + b) := by decide
theorem sx_bal {S0 a b : Nat} {k : kS} {Q : Int32 → kS → Prop} (ha : a < 6) (hb : b < 6) (q : Q (k.1 4 (a * 6 + b) - k.1 4 (b * 6 + a)) k) : wX0_balance S0 k (nI a) (nI b) Q := by
  refine sx_house_y ha (b1 (sx_house_y hb (b1 ?_)))
  rw [ix6' a ha b hb, ix6' b hb a ha]
  refine ⟨q_in (by omega) (by decide), q_in (by omega) (by decide), ?_⟩
  rw [q_cl (by omega), q_cl (by omega)]
  exact q
theorem op_owes {S0 c : Nat} {k : kS} {m : mS} (p p2 : Int32) (h : Rel c k m) : OpI1 (Rel (c + 1)) "java/lang/IllegalArgumentException" (wX6_owes m p p2) (wX5_owes S0 k p p2) := by
  have h' := h
  obtain ⟨n, r, d, t, ca, ra, A, QC, ⟨-, -, -, hC, hR, hA, -⟩, -⟩ := h'
  rcases q_rng p 6 (by decide) with ⟨a, ha, rfl⟩ | ⟨hp, -⟩
  · rcases q_rng p2 6 (by decide) with ⟨b, hb, rfl⟩ | ⟨hp, -⟩
    · refine ⟨m 20 (6 * a + b), mset m 23 0 0, fun Q2 hq => ?_, Or.inl ⟨rfl, fun Q QX hq => ?_⟩⟩
      · refine sm_house_y ha (b1 (sm_house_y hb (b1 (sm_holds0 (b0 ?_)))))
        rw [ix6 a ha b hb]
        refine ⟨q_in (by omega) (by decide), ?_⟩
        rw [q_cl (by omega)]
        exact hq
      · refine sx_house_y ha (b1 (sx_house_y hb (b1 (sx_bal ha hb ?_))))
        rw [hA.1 a b ha hb]
        exact hq k (rel_thr h 0)
    · refine ⟨-1, mset m 23 0 1, fun Q2 hq => ?_, Or.inr ⟨rfl, fun Q QX hq => ?_⟩⟩
      · exact sm_house_y ha (b1 (sm_house_n hp (b0 (sm_holds1 (b1 hq)))))
      · exact sx_house_y ha (b1 (sx_house_n hp (b0 ⟨by decide, hq k (rel_thr h 1)⟩)))
  · refine ⟨-1, mset m 23 0 1, fun Q2 hq => ?_, Or.inr ⟨rfl, fun Q QX hq => ?_⟩⟩
    · exact sm_house_n hp (b0 (sm_holds1 (b1 hq)))
    · exact sx_house_n hp (b0 ⟨by decide, hq k (rel_thr h 1)⟩)
theorem op_quota {S0 c : Nat} {k : kS} {m : mS} (p : Int32) (h : Rel c k m) : OpI1 (Rel (c + 1)) "java/lang/IllegalArgumentException" (wX6_quota m p) (wX5_quota S0 k p) := by
  have h' := h
  obtain ⟨n, r, d, t, ca, ra, A, QC, ⟨-, -, -, hC, hR, hA, -⟩, -⟩ := h'
  rcases q_rng p 6 (by decide) with ⟨a, ha, rfl⟩ | ⟨hp, -⟩
  · refine ⟨m 21 a, mset m 23 0 0, fun Q2 hq => ?_, Or.inl ⟨rfl, fun Q QX hq => ?_⟩⟩
    · refine sm_house_y ha (b1 (sm_holds0 (b0 ⟨q_in ha (by decide), ?_⟩)))
      rw [q_cl (by omega)]
      exact hq
    · refine sx_house_y ha (b1 (sx_house_y ha (b1 ⟨q_in ha (by decide), ?_⟩)))
      rw [q_cl (by omega), hA.2.2.2 a ha]
      exact hq k (rel_thr h 0)
  · refine ⟨-1, mset m 23 0 1, fun Q2 hq => ?_, Or.inr ⟨rfl, fun Q QX hq => ?_⟩⟩
    · exact sm_house_n hp (b0 (sm_holds1 (b1 hq)))
    · exact sx_house_n hp (b0 ⟨by decide, hq k (rel_thr h 1)⟩)
