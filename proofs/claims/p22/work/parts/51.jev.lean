/-! THE PROPERTY under each arrival -/
def WF (m : mS) (n r d u : Nat) : Prop := (∀ j, j < n → ∃ h, h < 6 ∧ m 0 j = nI h) ∧ (∀ i, i < r → ∃ h, h < 6 ∧ m 8 i = nI h) ∧ m 7 0 = nI n ∧ m 22 0 = nI d ∧ m 19 0 = nI u ∧ n ≤ 20 ∧ r ≤ 40 ∧ d ≤ 51200 ∧ u ≤ 4000
theorem mSend_19 (m : mS) (u : Nat) (x y z : Int32) : mSend m u x y z 19 0 = nI (u + 1) := by
  show upd (m 19) 0 (nI (u + 1)) 0 = _
  exact upd_s _ _ _
theorem i2n_q {n : Nat} (h : n < 1000000) : i2n (nI n) = n := q_cl h
theorem core_WF {k : kS} {m : mS} {n r d : Nat} {ca ra : Nat → Nat} {A QC : List Nat} {U E : Nat} (h : Core k m n r d ca ra A QC U E) : WF m n r d A.length := by
  obtain ⟨⟨n1, n2, n3⟩, ⟨r1, r2, r3⟩, ⟨d1, d2, d3⟩, hC, hR, hA, hQ, hM⟩ := h
  exact ⟨fun j hj => (hC.1 j hj).2.2.2.2.2.2.2.2.2.2.1, fun i hi => (hR.1 i hi).2.2.2.2.2.2.2.2.1, n1, d1, hM.1, n3, r3, d3, by have := hM.2.1; omega⟩
theorem rnw_up {m : mS} {lo u : Nat} : rnw m (lo + 1) u ≤ rnw m lo u := by
  refine ct_mono u (fun x hx h => ?_)
  unfold rnwB at h ⊢
  simp only [decide_eq_true_eq] at h ⊢
  exact ⟨h.1, h.2.elim (fun h => Or.inl (by omega)) Or.inr⟩
theorem rnw_at {m : mS} {lo u : Nat} (hl : lo < u) (h16 : m 16 lo = 3) (h18 : m 18 lo = m 22 0) : rnw m (lo + 1) u + 1 = rnw m lo u := by
  refine ct_drop u hl (fun x hx hn => ?_) ?_ ?_
  · unfold rnwB
    have : lo ≤ x ↔ lo + 1 ≤ x := ⟨fun h => by omega, fun h => by omega⟩
    simp only [this]
  · unfold rnwB
    simp only [decide_eq_true_eq]
    exact ⟨h16, Or.inl (Nat.le_refl _)⟩
  · unfold rnwB
    simp only [decide_eq_false_iff_not]
    rintro ⟨-, h | h⟩
    · omega
    · exact h h18
/-- the copy of a request that has one -/
theorem J_copy {m : mS} {n r : Nat} (h : JB n r (m 0) (m 1) (m 2) (m 3) (m 8) (m 9) (m 10) (m 11)) {i : Nat} (hi : i < r) (h5 : m 10 i ≠ 5) : ∃ j, j < n ∧ m 11 i = nI j ∧ m 0 j ≠ m 8 i ∧ m 1 j = m 9 i ∧ rok (m 10 i) (m 3 j) (m 2 j) (m 0 j) (m 8 i) := by
  rcases h.1 i hi with ⟨e, -⟩ | h
  · exact absurd e h5
  · exact h
theorem q_ne_m1 {x : Int32} {N : Nat} (hN : N < 1000) (h : ∃ z, z < N ∧ x = nI z) : x ≠ -1 := by
  obtain ⟨z, hz, e⟩ := h
  rw [e]
  exact q_m1 (by omega)
theorem JS_bill {m : mS} {w z n : Nat} (hw : w < 6) (h : JS (m 21)) : JS (mBill m w z n 21) := by
  have e0 : JS (upd (m 21) w (m 21 w + 0)) := by
    intro x hx
    by_cases e : x = w
    · rw [e, upd_s, Int32.add_zero]; exact h w hw
    · rw [upd_n _ _ e]; exact h x hx
  unfold mBill
  split
  · rw [owed_c _ _ _ _ (by decide)]; exact e0
  · split
    · rw [owed_c _ _ _ _ (by decide)]; exact e0
    · rename_i h2
      rw [owed_c _ _ _ _ (by decide)]
      show JS (upd (m 21) w (m 21 w + 1))
      intro x hx
      by_cases e : x = w
      · rw [e, upd_s]
        rcases h w hw with e | e | e
        · rw [e]; exact Or.inr (Or.inl (by decide))
        · rw [e]; exact Or.inr (Or.inr (by decide))
        · rw [e] at h2; exact absurd (by decide) h2
      · rw [upd_n _ _ e]; exact h x hx
theorem J_ren {m : mS} {n r c lo u d i : Nat} (hW : WF m n r d u) (hi : i < r) (hc : c ≤ 600) (hB : JB n r (m 0) (m 1) (m 2) (m 3) (m 8) (m 9) (m 10) (m 11)) (hK : JK n (m 4)) (hS : JS (m 21)) (hD : JD r c (rnw m lo u + 1) (m 12)) : J (mRen m i) n r c lo u ∧ GO r (m 10) (mRen m i 10) ∧ mRen m i 19 = m 19 := by
  have hD' : JD r c (rnw m lo u) (m 12) := JD_mono hD (by omega) (Nat.le_refl _)
  unfold mRen
  split
  · refine ⟨⟨hB, hK, hS, ?_⟩, GO_rf hB, rfl⟩
    have e : rnw (mset m 12 i (nI (i2n (m 12 i) + 20))) lo u = rnw m lo u := rnw_cg lo u (fun _ _ => ⟨rfl, rfl⟩) rfl
    rw [e]
    refine ⟨fun x hx => ?_, hD'.2⟩
    show ∃ w, upd (m 12) i _ x = _ ∧ _
    by_cases ex : x = i
    · obtain ⟨w, e12, hw⟩ := hD.1 i hi
      rw [ex, upd_s, e12, i2n_q (by omega)]
      exact ⟨w + 20, rfl, by omega⟩
    · rw [upd_n _ _ ex]
      exact hD'.1 x hx
  · exact ⟨⟨hB, hK, hS, hD'⟩, GO_rf hB, rfl⟩
theorem J_rec {m : mS} {n r c lo u d i : Nat} (hW : WF m n r d u) (hi : i < r) (hc : c ≤ 600) (hJ : J m n r c lo u) : J (mRec m i) n r c lo u ∧ GO r (m 10) (mRec m i 10) ∧ mRec m i 19 = m 19 := by
  obtain ⟨hB, hK, hS, hD⟩ := hJ
  unfold mRec
  split
  · split
    · exact ⟨⟨hB, hK, hS, hD⟩, GO_rf hB, rfl⟩
    · rename_i h1 h2
      refine ⟨⟨hB, hK, hS, ?_⟩, GO_rf hB, rfl⟩
      have e : rnw (mset m 12 i (m 22 0 + 5)) lo u = rnw m lo u := rnw_cg lo u (fun _ _ => ⟨rfl, rfl⟩) rfl
      rw [e]
      refine ⟨fun x hx => ?_, hD.2⟩
      show ∃ w, upd (m 12) i _ x = _ ∧ _
      by_cases ex : x = i
      · obtain ⟨w, e12, hw⟩ := hD.1 i hi
        obtain ⟨-, -, -, d1, -, -, -, d3, -⟩ := hW
        rw [e12, d1, show (5 : Int32) = nI 5 from rfl, nI_add, q_le (by omega) (by omega)] at h2
        rw [ex, upd_s, d1, show (5 : Int32) = nI 5 from rfl, nI_add]
        exact ⟨d + 5, rfl, by omega⟩
      · rw [upd_n _ _ ex]
        exact hD.1 x hx
  · exact ⟨⟨hB, hK, hS, hD⟩, GO_rf hB, rfl⟩
theorem J_news {m : mS} {n r c lo u i : Nat} {x : Int32} (hx : x = 0 ∨ x = 1) (hJ : J m n r c lo u) : J (mset m 4 i x) n r c lo u ∧ GO r (m 10) (mset m 4 i x 10) ∧ mset m 4 i x 19 = m 19 := by
  obtain ⟨hB, hK, hS, hD⟩ := hJ
  refine ⟨⟨hB, fun j hj => ?_, hS, ?_⟩, GO_rf hB, rfl⟩
  · show upd (m 4) i x j = _ ∨ upd (m 4) i x j = _ ∨ upd (m 4) i x j = _
    by_cases e : j = i
    · rw [e, upd_s]; exact Or.inr hx
    · rw [upd_n _ _ e]; exact hK j hj
  · have e : rnw (mset m 4 i x) lo u = rnw m lo u := rnw_cg lo u (fun _ _ => ⟨rfl, rfl⟩) rfl
    rw [e]; exact hD
theorem J_loan {m : mS} {n r c lo u d i : Nat} (hW : WF m n r d u) (hi : i < r) (h1 : m 10 i = 1) (hJ : J m n r c lo u) : J (mLoan m i) n r c lo u ∧ GO r (m 10) (mLoan m i 10) ∧ mLoan m i 19 = m 19 := by
  obtain ⟨hB, hK, hS, hD⟩ := hJ
  obtain ⟨h0, h8, e7, e22, e19, hn, hr, hd, hu⟩ := hW
  obtain ⟨j, hj, e11, -⟩ := J_copy hB hi (by rw [h1]; decide)
  obtain ⟨w, hw, e8⟩ := h8 i hi
  have hb1 : bz (m 10 i) := Or.inl h1
  unfold mLoan
  rw [e11, i2n_q (show j < 1000000 by omega), e8, i2n_q (show w < 1000000 by omega), e22, i2n_q (show d < 1000000 by omega)]
  generalize i2n (m 0 j) = z
  generalize i2n (m 7 0) = n7
  have hc : ∀ a, a ≠ 20 → a ≠ 21 → mBill m w z n7 a = m a := fun a h1 h2 => mBill_c m w z n7 h1 h2
  have e10 : mLn (mBill m w z n7) i j w d 10 = upd (m 10) i 2 := by
    show upd (mBill m w z n7 10) i 2 = _
    rw [hc 10 (by decide) (by decide)]
  have e2 : mLn (mBill m w z n7) i j w d 2 = upd (m 2) j (nI w) := by
    show upd (mBill m w z n7 2) j (nI w) = _
    rw [hc 2 (by decide) (by decide)]
  have e3 : mLn (mBill m w z n7) i j w d 3 = upd (m 3) j (nI w) := by
    show upd (mBill m w z n7 3) j (nI w) = _
    rw [hc 3 (by decide) (by decide)]
  have e12 : mLn (mBill m w z n7) i j w d 12 = upd (m 12) i (nI (d + 20)) := by
    show upd (mBill m w z n7 12) i _ = _
    rw [hc 12 (by decide) (by decide)]
  have ec : ∀ a, a ≠ 20 → a ≠ 21 → a ≠ 2 → a ≠ 3 → a ≠ 10 → a ≠ 12 → mLn (mBill m w z n7) i j w d a = m a := fun a q1 q2 q3 q4 q5 q6 => (ms_c _ _ _ _ q6).trans ((ms_c _ _ _ _ q5).trans ((ms_c _ _ _ _ q4).trans ((ms_c _ _ _ _ q3).trans (hc a q1 q2))))
  refine ⟨⟨?_, ?_, ?_, ?_⟩, ?_, ec 19 (by decide) (by decide) (by decide) (by decide) (by decide) (by decide)⟩
  · rw [ec 0 (by decide) (by decide) (by decide) (by decide) (by decide) (by decide), ec 1 (by decide) (by decide) (by decide) (by decide) (by decide) (by decide), e2, e3, ec 8 (by decide) (by decide) (by decide) (by decide) (by decide) (by decide), ec 9 (by decide) (by decide) (by decide) (by decide) (by decide) (by decide), e10, ec 11 (by decide) (by decide) (by decide) (by decide) (by decide) (by decide)]
    refine JB_move hB hn hi hj e11 (JB_un hB hi hb1 e11) (fun x hx => upd_n _ _ hx) (fun x hx => upd_n _ _ hx) (fun x hx => upd_n _ _ hx) ?_ (fun h => absurd ?_ h)
    · rw [upd_s, upd_s, upd_s, e8]
      exact Or.inr (Or.inr (Or.inr (Or.inl ⟨rfl, rfl, rfl⟩)))
    · rw [upd_s]
      exact Or.inr (Or.inl rfl)
  · rw [ec 4 (by decide) (by decide) (by decide) (by decide) (by decide) (by decide)]
    exact hK
  · show JS (mBill m w z n7 21)
    exact JS_bill hw hS
  · have e : rnw (mLn (mBill m w z n7) i j w d) lo u = rnw m lo u := rnw_cg lo u (fun x _ => ⟨by rw [ec 16 (by decide) (by decide) (by decide) (by decide) (by decide) (by decide)], by rw [ec 18 (by decide) (by decide) (by decide) (by decide) (by decide) (by decide)]⟩) (by rw [ec 22 (by decide) (by decide) (by decide) (by decide) (by decide) (by decide)])
    rw [e, e12]
    refine ⟨fun x hx => ?_, hD.2⟩
    by_cases ex : x = i
    · rw [ex, upd_s]
      have := hD.2
      exact ⟨d + 20, rfl, by omega⟩
    · rw [upd_n _ _ ex]
      exact hD.1 x hx
  · rw [e10]
    refine GO_one hB (i := i) ?_ (fun x hx => upd_n _ _ hx)
    rw [upd_s, h1]
    exact ⟨1, 2, by omega, by omega, rfl, rfl, by omega, by omega⟩
theorem J_home {m : mS} {n r c lo u d i : Nat} (hW : WF m n r d u) (hi : i < r) (h3 : m 10 i = 3) (hJ : J m n r c lo u) : (∃ u', u' ≤ u + 2 ∧ mHome m i 19 0 = nI u' ∧ J (mHome m i) n r c lo u') ∧ GO r (m 10) (mHome m i 10) := by
  obtain ⟨hB, hK, hS, hD⟩ := hJ
  obtain ⟨h0, h8, e7, e22, e19, hn, hr, hd, hu⟩ := hW
  obtain ⟨j, hj, e11, -⟩ := J_copy hB hi (by rw [h3]; decide)
  obtain ⟨z, hz, e0⟩ := h0 j hj
  have hb1 : bz (m 10 i) := Or.inr (Or.inr h3)
  unfold mHome
  rw [e11, i2n_q (show j < 1000000 by omega), e0, i2n_q (show z < 1000000 by omega), e22, i2n_q (show d < 1000000 by omega), e19, i2n_q (show u < 1000000 by omega)]
  have hc : ∀ a, a ≠ 6 → a ≠ 20 → mFind (mH m i j z) j a = mH m i j z a := fun a h1 h2 => mFind_c (mH m i j z) j h1 h2
  have e19' : mFind (mH m i j z) j 19 0 = nI u := by rw [hc 19 (by decide) (by decide)]; exact e19
  have e10 : mFind (mH m i j z) j 10 = upd (m 10) i 4 := hc 10 (by decide) (by decide)
  have main : J (mFind (mH m i j z) j) n r c lo u := by
    refine ⟨?_, ?_, ?_, ?_⟩
    · rw [hc 0 (by decide) (by decide), hc 1 (by decide) (by decide), hc 2 (by decide) (by decide), hc 3 (by decide) (by decide), hc 8 (by decide) (by decide), hc 9 (by decide) (by decide), hc 10 (by decide) (by decide), hc 11 (by decide) (by decide)]
      show JB n r (m 0) (m 1) (upd (m 2) j (nI z)) (upd (m 3) j (nI z)) (m 8) (m 9) (upd (m 10) i 4) (m 11)
      refine JB_move hB hn hi hj e11 (JB_un hB hi hb1 e11) (fun x hx => upd_n _ _ hx) (fun x hx => upd_n _ _ hx) (fun x hx => upd_n _ _ hx) ?_ (fun _ => ?_)
      · rw [upd_s]
        exact Or.inr (Or.inl rfl)
      · rw [upd_s, upd_s]
        exact ⟨e0.symm, e0.symm⟩
    · rw [hc 4 (by decide) (by decide)]
      exact hK
    · rw [hc 21 (by decide) (by decide)]
      exact hS
    · have e : rnw (mFind (mH m i j z) j) lo u = rnw m lo u := rnw_cg lo u (fun x _ => ⟨by rw [hc 16 (by decide) (by decide)]; rfl, by rw [hc 18 (by decide) (by decide)]; rfl⟩) (by rw [hc 22 (by decide) (by decide)]; rfl)
      rw [e, hc 12 (by decide) (by decide)]
      exact hD
  have hgo : GO r (m 10) (upd (m 10) i 4) := by
    refine GO_one hB (i := i) ?_ (fun x hx => upd_n _ _ hx)
    rw [upd_s, h3]
    exact ⟨3, 4, by omega, by omega, rfl, rfl, by omega, by omega⟩
  unfold mHom
  split
  · obtain ⟨b1, b2, b3, b4⟩ := main
    refine ⟨⟨u + 1, by omega, mSend_19 _ _ _ _ _, b1, b2, b3, ?_⟩, ?_⟩
    · rw [rnw_send (by decide)]
      exact b4
    · show GO r (m 10) (mFind (mH m i j z) j 10)
      rw [e10]
      exact hgo
  · exact ⟨⟨u, by omega, e19', main⟩, by rw [e10]; exact hgo⟩
/-- the list asks the next home, for a request whose row is new or asks -/
theorem J_end {m : mS} {n r r' c lo u d i w : Nat} {f8 f9 : Nat → Int32} (hn : n ≤ 20) (hB : JB n r (m 0) (m 1) (m 2) (m 3) f8 f9 (m 10) (m 11)) (hK : JK n (m 4)) (hS : JS (m 21)) (hD : JD r' c (rnw m lo u) (m 12)) (e19 : m 19 0 = nI u) (hrr : r ≤ r') (hx : ∀ x, x < r' → x ≠ i → x < r) (h8 : ∀ x, x ≠ i → m 8 x = f8 x) (h9 : ∀ x, x ≠ i → m 9 x = f9 x) (hnb : i < r → ¬ bz (m 10 i)) :
    (∃ u', u' ≤ u + 2 ∧ mEnd m i w n u d 19 0 = nI u' ∧ J (mEnd m i w n u d) n r' c lo u') ∧ (∀ x, x ≠ i → mEnd m i w n u d 10 x = m 10 x) ∧ ((nb m i w n = none ∧ mEnd m i w n u d 10 i = 5 ∧ mEnd m i w n u d 11 i = -1) ∨ ∃ b, nb m i w n = some b ∧ mEnd m i w n u d 10 i = 0 ∧ mEnd m i w n u d 11 i = nI b) := by
  unfold mEnd
  rcases hb : nb m i w n with _ | b
  · have e10 : mFail m i 10 = upd (m 10) i 5 := rfl
    have e11 : mFail m i 11 = upd (m 11) i (-1) := rfl
    refine ⟨⟨u, by omega, e19, ?_, hK, hS, ?_⟩, fun x hx => upd_n _ _ hx, Or.inl ⟨rfl, upd_s _ _ _, upd_s _ _ _⟩⟩
    · refine JB_row (g8 := m 8) (g9 := m 9) hB hrr hx h8 h9 (fun x hx => upd_n _ _ hx) (fun x hx => upd_n _ _ hx) hnb (Or.inl ⟨upd_s _ _ _, upd_s _ _ _⟩)
    · have e : rnw (mFail m i) lo u = rnw m lo u := rnw_cg lo u (fun _ _ => ⟨rfl, rfl⟩) rfl
      show JD r' c (rnw (mFail m i) lo u) (m 12)
      rw [e]; exact hD
  · obtain ⟨hbn, ⟨q1, q2, q3⟩, -⟩ := nb_spec m i w n b hb
    refine ⟨⟨u + 1, by omega, mSend_19 _ _ _ _ _, ?_, hK, hS, ?_⟩, fun x hx => ?_, Or.inr ⟨b, rfl, ?_, ?_⟩⟩
    · show JB n r' (m 0) (m 1) (m 2) (m 3) (m 8) (m 9) (upd (m 10) i 0) (upd (m 11) i (nI b))
      exact JB_row (g8 := m 8) (g9 := m 9) hB hrr hx h8 h9 (fun x hx => upd_n _ _ hx) (fun x hx => upd_n _ _ hx) hnb (Or.inr ⟨b, hbn, upd_s _ _ _, upd_s _ _ _, q3, q1⟩)
    · show JD r' c (rnw (mSend (mAsk m i b) u 2 (nI i) (nI (d + wayN w (hN m b)))) lo (u + 1)) (m 12)
      rw [rnw_send (by decide)]
      have e : rnw (mAsk m i b) lo u = rnw m lo u := rnw_cg lo u (fun _ _ => ⟨rfl, rfl⟩) rfl
      rw [e]; exact hD
    · show upd (m 10) i 0 x = _
      exact upd_n _ _ hx
    · show upd (m 10) i 0 i = _
      exact upd_s _ _ _
    · show upd (m 11) i (nI b) i = _
      exact upd_s _ _ _
theorem J_ans {m : mS} {n r c lo u d i : Nat} (hW : WF m n r d u) (hi : i < r) (h0i : m 10 i = 0) (hJ : J m n r c lo u) : (∃ u', u' ≤ u + 2 ∧ mAns m i 19 0 = nI u' ∧ J (mAns m i) n r c lo u') ∧ GO r (m 10) (mAns m i 10) := by
  have hJ' := hJ
  obtain ⟨hB, hK, hS, hD⟩ := hJ
  obtain ⟨h0, h8, e7, e22, e19, hn, hr, hd, hu⟩ := hW
  obtain ⟨j, hj, e11, own, -⟩ := J_copy hB hi (by rw [h0i]; decide)
  obtain ⟨z, hz, e0⟩ := h0 j hj
  obtain ⟨w, hw, e8⟩ := h8 i hi
  unfold mAns
  rw [e11, i2n_q (show j < 1000000 by omega), e0, i2n_q (show z < 1000000 by omega), e8, i2n_q (show w < 1000000 by omega), e22, i2n_q (show d < 1000000 by omega), e19, i2n_q (show u < 1000000 by omega), e7, i2n_q (show n < 1000000 by omega)]
  unfold mAn
  split
  · rename_i hf
    have hun := JB_un0 hB hn hj hf.1 (q_ne_m1 (by decide) (h0 j hj))
    have e3j : m 3 j = m 0 j := by
      rcases hB.2.2 j hj with ⟨e, -⟩ | ⟨x, hx, bx, e⟩
      · exact e
      · exact absurd e (hun x hx bx)
    refine ⟨⟨u + 2, by omega, mSend_19 _ _ _ _ _, ?_, hK, hS, ?_⟩, ?_⟩
    · show JB n r (m 0) (m 1) (upd (m 2) j (-1)) (m 3) (m 8) (m 9) (upd (m 10) i 1) (m 11)
      refine JB_move hB hn hi hj e11 (fun x hx _ => hun x hx) (fun x hx => upd_n _ _ hx) (fun _ _ => rfl) (fun x hx => upd_n _ _ hx) ?_ (fun h => absurd ?_ h)
      · rw [upd_s, upd_s]
        exact Or.inr (Or.inr (Or.inl ⟨rfl, e3j, rfl⟩))
      · rw [upd_s]
        exact Or.inl rfl
    · show JD r c (rnw (mSend (mSend (mset (mset m 2 j (-1)) 10 i 1) u 5 (nI i) (nI (d + wayN w z))) (u + 1) 0 (nI j) (nI (d + (z + 1)))) lo (u + 2)) (m 12)
      rw [rnw_send (by decide), rnw_send (by decide)]
      have e : rnw (mset (mset m 2 j (-1)) 10 i 1) lo u = rnw m lo u := rnw_cg lo u (fun _ _ => ⟨rfl, rfl⟩) rfl
      rw [e]; exact hD
    · show GO r (m 10) (upd (m 10) i 1)
      refine GO_one hB (i := i) ?_ (fun x hx => upd_n _ _ hx)
      rw [upd_s, h0i]
      exact ⟨0, 1, by omega, by omega, rfl, rfl, by omega, by omega⟩
  · obtain ⟨g1, g2, g3⟩ := J_end (w := w) (d := d) (lo := lo) (i := i) hn hB hK hS hD e19 (Nat.le_refl _) (fun x hx _ => hx) (fun _ _ => rfl) (fun _ _ => rfl) (fun _ => by rw [h0i]; exact bz_0)
    refine ⟨g1, GO_one hB (i := i) ?_ g2⟩
    rw [h0i]
    rcases g3 with ⟨-, e, -⟩ | ⟨b, -, e, -⟩
    · rw [e]
      exact ⟨0, 5, by omega, by omega, rfl, rfl, by omega, by omega⟩
    · rw [e]
      exact ⟨0, 0, by omega, by omega, rfl, rfl, by omega, by omega⟩
/-- what arrives first -/
theorem J_arr {k : kS} {m : mS} {n r d c c2 t a j : Nat} {ca ra : Nat → Nat} {A QC : List Nat} (h : Arr1 k m n r d c2 t ca ra A QC a) (hrow : mRow k n r ca ra a (m 16 j) (m 17 j) (m 18 j)) (hjA : j < A.length) (he : m 18 j = m 22 0) (hc : c ≤ 600) (hJ : J m n r c j A.length) :
    (∃ u', u' ≤ A.length + 2 ∧ mArr r m (m 16 j) (m 17 j) 19 0 = nI u' ∧ J (mArr r m (m 16 j) (m 17 j)) n r c (j + 1) u') ∧ GO r (m 10) (mArr r m (m 16 j) (m 17 j) 10) := by
  obtain ⟨hcore, -, -, -, -, hl, -⟩ := h
  have hW := core_WF hcore
  have hr40 : r ≤ 40 := hW.2.2.2.2.2.2.1
  have hn20 : n ≤ 20 := hW.2.2.2.2.2.1
  have e19 : m 19 0 = nI A.length := hW.2.2.2.2.1
  have hJ2 : J m n r c (j + 1) A.length := ⟨hJ.1, hJ.2.1, hJ.2.2.1, JD_mono hJ.2.2.2 rnw_up (Nat.le_refl _)⟩
  have hR := hcore.2.2.2.2.1
  have key : (∃ u', u' ≤ A.length + 2 ∧ mArr0 m (m 16 j) (m 17 j) 19 0 = nI u' ∧ J (mArr0 m (m 16 j) (m 17 j)) n r c (j + 1) u') ∧ GO r (m 10) (mArr0 m (m 16 j) (m 17 j) 10) := by
    obtain ⟨-, -, -, hr⟩ := hrow
    rcases hr with ⟨-, i, hi, ey, -, hx⟩ | ⟨i, cc, hi, ey, h33, h32, hx⟩
    · have h01 : m 16 j = 0 ∨ m 16 j = 1 := hx.elim (fun e => Or.inr e.1) (fun e => Or.inl e.1)
      have e0 : mArr0 m (m 16 j) (m 17 j) = mset m 4 i (m 16 j) := by
        rw [ey]
        unfold mArr0
        rw [i2n_q (by omega)]
        rcases h01 with e | e <;> rw [e] <;> rfl
      rw [e0]
      obtain ⟨g1, g2, g3⟩ := J_news (i := i) h01 hJ2
      exact ⟨⟨A.length, by omega, by rw [g3]; exact e19, g1⟩, g2⟩
    · have a3 := (hR.1 i hi).2.2
      have h23 : k.1 23 (ra i) = m 10 i := a3.2.2.1
      have hll := hl (ra i) h33
      rcases hx with ⟨ex, ek⟩ | ⟨ex, ek⟩ | ⟨ex, ek⟩ | ⟨ex, ek⟩ | ⟨ex, ek⟩
      · have h0 : m 10 i = 0 := by
          rcases hll with ⟨-, e, -⟩ | ⟨e, -⟩ | ⟨e, -⟩ | ⟨e | e, -⟩
          · rw [← h23]; exact e
          all_goals (rw [ek] at e; exact absurd e (by decide))
        have e0 : mArr0 m (m 16 j) (m 17 j) = mAns m i := by
          rw [ey, ex]
          unfold mArr0
          rw [i2n_q (by omega)]
          rfl
        rw [e0]
        exact J_ans hW hi h0 hJ2
      · have e0 : mArr0 m (m 16 j) (m 17 j) = mRen m i := by
          rw [ey, ex]
          unfold mArr0
          rw [i2n_q (by omega)]
          rfl
        rw [e0]
        obtain ⟨g1, g2, g3⟩ := J_ren hW hi hc hJ.1 hJ.2.1 hJ.2.2.1 (lo := j + 1) (by rw [rnw_at hjA ex he]; exact hJ.2.2.2)
        exact ⟨⟨A.length, by omega, by rw [g3]; exact e19, g1⟩, g2⟩
      · have e0 : mArr0 m (m 16 j) (m 17 j) = mRec m i := by
          rw [ey, ex]
          unfold mArr0
          rw [i2n_q (by omega)]
          rfl
        rw [e0]
        obtain ⟨g1, g2, g3⟩ := J_rec hW hi hc hJ2
        exact ⟨⟨A.length, by omega, by rw [g3]; exact e19, g1⟩, g2⟩
      · have h1 : m 10 i = 1 := by
          rcases hll with ⟨e, -⟩ | ⟨-, e, -⟩ | ⟨e, -⟩ | ⟨e | e, -⟩
          · rw [ek] at e; exact absurd e (by decide)
          · rw [← h23]; exact e
          all_goals (rw [ek] at e; exact absurd e (by decide))
        have e0 : mArr0 m (m 16 j) (m 17 j) = mLoan m i := by
          rw [ey, ex]
          unfold mArr0
          rw [i2n_q (by omega), h1]
          rfl
        rw [e0]
        obtain ⟨g1, g2, g3⟩ := J_loan hW hi h1 hJ2
        exact ⟨⟨A.length, by omega, by rw [g3]; exact e19, g1⟩, g2⟩
      · have h3 : m 10 i = 3 := by
          rcases hll with ⟨e, -⟩ | ⟨e, -⟩ | ⟨-, e, -⟩ | ⟨e | e, -⟩
          · rw [ek] at e; exact absurd e (by decide)
          · rw [ek] at e; exact absurd e (by decide)
          · rw [← h23]; exact e
          all_goals (rw [ek] at e; exact absurd e (by decide))
        have e0 : mArr0 m (m 16 j) (m 17 j) = mHome m i := by
          rw [ey, ex]
          unfold mArr0
          rw [i2n_q (by omega), h3]
          rfl
        rw [e0]
        exact J_home hW hi h3 hJ2
  unfold mArr
  split
  · exact key
  · exact ⟨⟨A.length, by omega, e19, hJ2⟩, GO_rf hJ.1⟩
