/-! PURE: a loan begins; a copy comes home -/
theorem i2n_nI {n : Nat} (h : n < 1000000000) : i2n (nI n) = n := nI_clamp (by omega)
theorem sm_homes {m : mS} {n w : Nat} {Q : Int32 → mS → Prop} (h7 : m 7 0 = nI n) (hn : n ≤ 20) (q : Q (nI (cnt (m 0) w n)) m) : wX6_homes m (nI w) Q := by
  have loop : ∀ (y j : Nat), j + y = n → wX6_homes_l4 (nI w) Q (y + 1) (nI j) (nI (cnt (m 0) w j)) m := by
    intro y
    induction y with
    | zero =>
      intro j hj
      obtain rfl : j = n := by omega
      unfold wX6_homes_l4
      rw [h7]
      exact ⟨fun _ => q, fun e => absurd ((q_le (by omega) (by omega)).mpr (Nat.le_refl _)) e⟩
    | succ y ih =>
      intro j hj
      unfold wX6_homes_l4
      rw [h7, q_cl (by omega), nI_1, nI_1, Int32.add_zero]
      refine bn (by rw [q_le (by omega) (by omega)]; omega) ⟨q_in (by omega) (by decide), fun e => ?_, fun e => ?_⟩
      · have e2 : cnt (m 0) w (j + 1) = cnt (m 0) w j + 1 := by show cnt (m 0) w j + (if m 0 j = nI w then 1 else 0) = _; rw [if_pos e]
        rw [← e2]
        exact ih (j + 1) (by omega)
      · have e2 : cnt (m 0) w (j + 1) = cnt (m 0) w j := by show cnt (m 0) w j + (if m 0 j = nI w then 1 else 0) = _; rw [if_neg e]; rfl
        rw [← e2]
        exact ih (j + 1) (by omega)
  exact ⟨n + 1, loop n 0 (by omega)⟩
def kLn (k : kS) (c q w d : Nat) : kS := kset (kset (kset (kset k 13 c (nI w)) 14 c 0) 23 q 2) 24 q (nI (d + 20))
def mLn (m : mS) (i j w d : Nat) : mS := mset (mset (mset (mset m 2 j (nI w)) 3 j (nI w)) 10 i 2) 12 i (nI (d + 20))
theorem core_loan {k kx : kS} {m mx : mS} {n r d i j w : Nat} {ca ra : Nat → Nat} {A QC : List Nat} {U E E1 : Nat} (h : Core k m n r d ca ra A QC U E) (hi : i < r) (hj : j < n) (hw : w < 6) (h11 : m 11 i = nI j) (h22 : k.2.1 22 (ra i) = some (ca j)) (hk1 : ∀ a, a ≠ 4 → a ≠ 6 → kx.1 a = (kLn k (ca j) (ra i) w d).1 a) (hk2 : kx.2 = k.2) (hm : ∀ a, a ≠ 20 → a ≠ 21 → mx a = m a) (hA1 : pA kx mx n E1) (hno : ∀ b, b ∈ QC → k.2.1 33 b ≠ some (ra i)) (hU : d + 20 ≤ U) : Core kx (mLn mx i j w d) n r d ca ra A QC U E1 := by
  obtain ⟨⟨n1, n2, n3⟩, ⟨c1, c2, c3⟩, ⟨d1, d2, d3⟩, hC, hR, hA, hQ, hM⟩ := h
  have kc : ∀ a, a ≠ 4 → a ≠ 6 → a ≠ 13 → a ≠ 14 → a ≠ 23 → a ≠ 24 → kx.1 a = k.1 a := fun a x1 x2 x3 x4 x5 x6 => (hk1 a x1 x2).trans ((ks_c _ _ _ _ x6).trans ((ks_c _ _ _ _ x5).trans ((ks_c _ _ _ _ x4).trans (ks_c _ _ _ _ x3))))
  have mc : ∀ a, a ≠ 20 → a ≠ 21 → a ≠ 2 → a ≠ 3 → a ≠ 10 → a ≠ 12 → mLn mx i j w d a = m a := fun a x1 x2 x3 x4 x5 x6 => ((ms_c _ _ _ _ x6).trans ((ms_c _ _ _ _ x5).trans ((ms_c _ _ _ _ x4).trans (ms_c _ _ _ _ x3)))).trans (hm a x1 x2)
  have k23 : kx.1 23 = upd (k.1 23) (ra i) 2 := hk1 23 (by decide) (by decide)
  refine ⟨⟨?_, ?_, n3⟩, ⟨?_, ?_, c3⟩, ⟨?_, ?_, d3⟩, ?_, ?_, hA1, ⟨?_, hQ.2.1, fun x hx => ?_⟩, ?_⟩
  · rw [mc 7 (by decide) (by decide) (by decide) (by decide) (by decide) (by decide)]; exact n1
  · rw [kc 0 (by decide) (by decide) (by decide) (by decide) (by decide) (by decide)]; exact n2
  · rw [mc 15 (by decide) (by decide) (by decide) (by decide) (by decide) (by decide)]; exact c1
  · rw [kc 1 (by decide) (by decide) (by decide) (by decide) (by decide) (by decide)]; exact c2
  · rw [mc 22 (by decide) (by decide) (by decide) (by decide) (by decide) (by decide)]; exact d1
  · rw [kc 2 (by decide) (by decide) (by decide) (by decide) (by decide) (by decide)]; exact d2
  · refine pC_step hC n3 hj (by rw [hk2]) (by rw [hk2]) (fun a h1 h2 q hq => ?_) (fun a ha y hy => ?_) ?_
    · exact (congrFun (hk1 a (by omega) (by omega)) q).trans ((congrFun ((ks_c _ _ _ _ (show a ≠ 24 by omega)).trans (ks_c _ _ _ _ (show a ≠ 23 by omega))) q).trans ((ks_n _ _ _ _ hq).trans (ks_n _ _ _ _ hq)))
    · exact (congrFun ((ms_c _ _ _ _ (show a ≠ 12 by omega)).trans (ms_c _ _ _ _ (show a ≠ 10 by omega))) y).trans ((ms_n _ _ _ _ hy).trans ((ms_n _ _ _ _ hy).trans (congrFun (hm a (by omega) (by omega)) y)))
    · have m2 : mLn mx i j w d 2 j = nI w := by show upd (mx 2) j (nI w) j = _; exact upd_s _ _ _
      have m3 : mLn mx i j w d 3 j = nI w := by show upd (mx 3) j (nI w) j = _; exact upd_s _ _ _
      have k13 : kx.1 13 (ca j) = nI w := (congrFun (hk1 13 (by decide) (by decide)) _).trans (by show upd (k.1 13) (ca j) (nI w) (ca j) = _; exact upd_s _ _ _)
      have k14 : kx.1 14 (ca j) = 0 := (congrFun (hk1 14 (by decide) (by decide)) _).trans (by show upd (k.1 14) (ca j) 0 (ca j) = _; exact upd_s _ _ _)
      obtain ⟨w1, w2, w3, w4, w5, w6, w7, w8, w9, w10, w11, w12⟩ := (hC.1 j hj).2.2
      have g : ∀ a, 10 ≤ a → a ≤ 17 → a ≠ 13 → a ≠ 14 → kx.1 a (ca j) = k.1 a (ca j) := fun a x1 x2 x3 x4 => congrFun (kc a (by omega) (by omega) x3 x4 (by omega) (by omega)) _
      have g' : ∀ a, a ≤ 6 → a ≠ 2 → a ≠ 3 → mLn mx i j w d a j = m a j := fun a x1 x2 x3 => congrFun (mc a (by omega) (by omega) x2 x3 (by omega) (by omega)) _
      unfold cRow
      simp only at w1 w2 w3 w4 w5 w6 w7 w8 w9 w10 w11 w12 ⊢
      rw [g 10 (by decide) (by decide) (by decide) (by decide), g 11 (by decide) (by decide) (by decide) (by decide), g 12 (by decide) (by decide) (by decide) (by decide), g 15 (by decide) (by decide) (by decide) (by decide), g 16 (by decide) (by decide) (by decide) (by decide), g 17 (by decide) (by decide) (by decide) (by decide), g' 0 (by decide) (by decide) (by decide), g' 1 (by decide) (by decide) (by decide), g' 4 (by decide) (by decide) (by decide), g' 5 (by decide) (by decide) (by decide), g' 6 (by decide) (by decide) (by decide)]
      exact ⟨w1, w2, w3, k13.trans m3.symm, w5, w6, w7, Or.inl ⟨k14, m2.trans m3.symm⟩, w9, ⟨w, hw, m3⟩, w11, w12⟩
  · refine pR_step hR (Nat.le_refl _) hi (by rw [hk2]) (by rw [hk2]) (fun q hq => by rw [hk2]) (fun a h1 h2 q hq => ?_) (fun a h1 h2 y hy => ?_) ?_
    · exact (congrFun (hk1 a (by omega) (by omega)) q).trans ((ks_n _ _ _ _ hq).trans ((ks_n _ _ _ _ hq).trans (congrFun ((ks_c _ _ _ _ (show a ≠ 14 by omega)).trans (ks_c _ _ _ _ (show a ≠ 13 by omega))) q)))
    · exact (ms_n _ _ _ _ hy).trans ((ms_n _ _ _ _ hy).trans ((congrFun ((ms_c _ _ _ _ (show a ≠ 3 by omega)).trans (ms_c _ _ _ _ (show a ≠ 2 by omega))) y).trans (congrFun (hm a (by omega) (by omega)) y)))
    · have m10 : mLn mx i j w d 10 i = 2 := by show upd (mx 10) i 2 i = _; exact upd_s _ _ _
      have m12 : mLn mx i j w d 12 i = nI (d + 20) := by show upd (mx 12) i (nI (d + 20)) i = _; exact upd_s _ _ _
      have e23 : kx.1 23 (ra i) = 2 := by rw [k23]; exact upd_s _ _ _
      have k24 : kx.1 24 (ra i) = nI (d + 20) := (congrFun (hk1 24 (by decide) (by decide)) _).trans (by show upd (k.1 24) (ra i) (nI (d + 20)) (ra i) = _; exact upd_s _ _ _)
      obtain ⟨w1, w2, w3, w4, w5, w6, w7, w8, w9, w10, w11⟩ := (hR.1 i hi).2.2
      have g : ∀ a, a = 20 ∨ a = 21 ∨ a = 25 ∨ a = 26 → kx.1 a (ra i) = k.1 a (ra i) := fun a x => congrFun (kc a (by omega) (by omega) (by omega) (by omega) (by omega) (by omega)) _
      have g' : ∀ a, a = 8 ∨ a = 9 ∨ a = 11 ∨ a = 13 ∨ a = 14 → mLn mx i j w d a i = m a i := fun a x => congrFun (mc a (by omega) (by omega) (by omega) (by omega) (by omega) (by omega)) _
      unfold rRow
      simp only at w1 w2 w3 w4 w5 w6 w7 w8 w9 w10 w11 ⊢
      rw [g 20 (by decide), g 21 (by decide), g 25 (by decide), g 26 (by decide), g' 8 (by decide), g' 9 (by decide), g' 11 (by decide), g' 13 (by decide), g' 14 (by decide), hk2]
      exact ⟨w1, w2, e23.trans m10.symm, k24.trans m12.symm, w5, w6, w7, w8, w9, ⟨d + 20, hU, m12⟩, Or.inr ⟨j, hj, h11, h22, 2, by decide, m10⟩⟩
  · rw [kc 3 (by decide) (by decide) (by decide) (by decide) (by decide) (by decide)]; exact hQ.1
  · rw [hk2]; exact hQ.2.2 x hx
  · refine pM_live hM (by rw [hk2]) (kc 30 (by decide) (by decide) (by decide) (by decide) (by decide) (by decide)) (kc 31 (by decide) (by decide) (by decide) (by decide) (by decide) (by decide)) (by rw [hk2]) (by rw [hk2]) (fun a h1 h2 => mc a (by omega) (by omega) (by omega) (by omega) (by omega) (by omega)) (List.Sublist.refl _) (fun b hb q hq => ?_)
    rw [hk2] at hq
    have hne : q ≠ ra i := fun e => hno b hb (e ▸ hq)
    have := (hM.2.2.2.1 b hb).2 q hq
    rw [kc 30 (by decide) (by decide) (by decide) (by decide) (by decide) (by decide), k23, upd_n _ _ hne, hk2]
    exact this
def mBill (m : mS) (w z n : Nat) : mS := if (3 : Int32) ≤ nI (cnt (m 0) w n) then owed (mset m 21 w (m 21 w + 0)) w z 6 else if (2 : Int32) ≤ m 21 w then owed (mset m 21 w (m 21 w + 0)) w z 6 else owed (mset m 21 w (m 21 w + 1)) w z 0
theorem owed_0 (m : mS) (a b j : Nat) : owed m a b 0 20 j = m 20 j := by
  rw [owed_20]
  split <;> split <;> grind
/-- the fee of a loan, on both sides -/
theorem bill_both {S0 : Nat} {k : kS} {m : mS} {n E w z : Nat} (hA : pA k m n E) (hn : n ≤ 20) (hw : w < 6) (hz : z < 6) (hE : E + 6 < 2147483648) : ∃ kx : kS, (∀ a, a ≠ 4 → a ≠ 6 → kx.1 a = k.1 a) ∧ kx.2 = k.2 ∧ pA kx (mBill m w z n) n (E + 6) ∧ (∀ Q : kS → Prop, Q kx → wX0_chargeLoan S0 k (nI w) (nI z) Q) := by
  have h5 : k.1 5 w = nI (cnt (m 0) w n) := hA.2.2.1 w hw
  have h6 : k.1 6 w = m 21 w := hA.2.2.2 w hw
  have hc := cnt_le (m 0) w n
  have hin : vp_in (nI w) 6 := q_in hw (by decide)
  have hid : pA k (mset m 21 w (m 21 w + 0)) n E := by rw [Int32.add_zero, ms_id]; exact hA
  have hch : pA (chg k w z 6) (owed (mset m 21 w (m 21 w + 0)) w z 6) n (E + 6) := pA_charge hid hw hz (by decide) (by decide) hE
  have iff3 : (2 : Int32) < nI (cnt (m 0) w n) ↔ (3 : Int32) ≤ nI (cnt (m 0) w n) := by
    rw [show (2 : Int32) = nI 2 from rfl, show (3 : Int32) = nI 3 from rfl, q_lt (by omega) (by omega), q_le (by omega) (by omega)]
    omega
  unfold mBill
  by_cases e3 : (3 : Int32) ≤ nI (cnt (m 0) w n)
  · rw [if_pos e3]
    refine ⟨chg k w z 6, fun a h1 h2 => chg_c _ _ _ _ h1, rfl, hch, fun Q q => ?_⟩
    refine sx_house_y hw (b1 ⟨hin, ?_⟩)
    rw [q_cl (by omega), h5]
    exact bi (iff3.mpr e3) (sx_charge hw hz q)
  · rw [if_neg e3]
    by_cases e2 : (2 : Int32) ≤ m 21 w
    · rw [if_pos e2]
      refine ⟨chg k w z 6, fun a h1 h2 => chg_c _ _ _ _ h1, rfl, hch, fun Q q => ?_⟩
      refine sx_house_y hw (b1 ⟨hin, ?_⟩)
      rw [q_cl (by omega), h5, h6]
      exact bn (fun e => e3 (iff3.mp e)) ⟨hin, bi e2 (sx_charge hw hz q)⟩
    · rw [if_neg e2]
      refine ⟨kset k 6 w (k.1 6 w + 1), fun a h1 h2 => ks_c _ _ _ _ h2, rfl, ⟨fun a b ha hb => ?_, fun j hj => ?_, hA.2.2.1, fun x hx => ?_⟩, fun Q q => ?_⟩
      · rw [owed_0]
        exact hA.1 a b ha hb
      · rw [owed_0]
        have := hA.2.1 j hj
        show -((E + 6 : Nat) : Int) ≤ (m 20 j).toInt ∧ (m 20 j).toInt ≤ ((E + 6 : Nat) : Int)
        omega
      · show upd (k.1 6) w (k.1 6 w + 1) x = upd (m 21) w (m 21 w + 1) x
        by_cases e : x = w
        · rw [e, upd_s, upd_s, h6]
        · rw [upd_n _ _ e, upd_n _ _ e]
          exact hA.2.2.2 x hx
      · refine sx_house_y hw (b1 ⟨hin, ?_⟩)
        rw [q_cl (by omega), h5, h6]
        refine bn (fun e => e3 (iff3.mp e)) ⟨hin, bn e2 ⟨hin, hin, ?_⟩⟩
        rintro k14 rfl
        rw [← h6]
        exact q
theorem mBill_c (m : mS) (w z n : Nat) {a : Nat} (h1 : a ≠ 20) (h2 : a ≠ 21) : mBill m w z n a = m a := by
  unfold mBill
  split
  · exact (owed_c _ _ _ _ h1).trans (ms_c _ _ _ _ h2)
  · split
    · exact (owed_c _ _ _ _ h1).trans (ms_c _ _ _ _ h2)
    · exact (owed_c _ _ _ _ h1).trans (ms_c _ _ _ _ h2)
def mLoan (m : mS) (i : Nat) : mS := mLn (mBill m (i2n (m 8 i)) (i2n (m 0 (i2n (m 11 i)))) (i2n (m 7 0))) i (i2n (m 11 i)) (i2n (m 8 i)) (i2n (m 22 0))
theorem dv_loan {S0 : Nat} {k : kS} {m : mS} {n r d c t a i : Nat} {ca ra : Nat → Nat} {A QC : List Nat} (h : Arr1 k m n r d c t ca ra A QC a) (h33 : k.2.1 33 a = some (ra i)) (hi : i < r) (h30 : k.1 30 a = 3) :
    (∀ Q2 : mS → Prop, Q2 (mLoan m i) → wX6_arrive m 5 (nI i) Q2) ∧ m 10 i = 1 ∧ (∀ (b : Nat) (Q : kS → Prop), (∀ k', DPost k (mLoan m i) n r d c t ca ra A QC k' → Q k') → wX5_deliver S0 b k a Q) := by
  obtain ⟨hcore, -, -, hE, hl, hrow, hpair⟩ := h
  have hcore' := hcore
  obtain ⟨⟨n1, n2, n3⟩, ⟨r1, r2, r3⟩, ⟨d1, d2, d3⟩, hC, hR, hA, hQ, hM⟩ := hcore'
  have a3 := (hR.1 i hi).2.2
  have h23 : k.1 23 (ra i) = m 10 i := a3.2.2.1
  have hst : k.1 23 (ra i) = 1 ∧ k.2.1 32 a = k.2.1 22 (ra i) := by
    rcases hrow _ h33 with ⟨e, -⟩ | ⟨-, e1, e2⟩ | ⟨e, -⟩ | ⟨e | e, -⟩
    · rw [h30] at e; exact absurd e (by decide)
    · exact ⟨e1, e2⟩
    · rw [h30] at e; exact absurd e (by decide)
    · rw [h30] at e; exact absurd e (by decide)
    · rw [h30] at e; exact absurd e (by decide)
  have hm1 : m 10 i = 1 := h23.symm.trans hst.1
  obtain ⟨j, hj, e11, ep⟩ := row_cp a3 (by show m 10 i ≠ 5; rw [hm1]; decide)
  replace e11 : m 11 i = nI j := e11
  obtain ⟨w, hw, e8⟩ : ∃ h, h < 6 ∧ m 8 i = nI h := a3.2.2.2.2.2.2.1
  obtain ⟨z, hz, e0⟩ : ∃ h, h < 6 ∧ m 0 j = nI h := (hC.1 j hj).2.2.2.2.2.2.2.2.2.2.1
  have e20 : k.1 20 (ra i) = nI w := a3.1.trans e8
  have e11k : k.1 11 (ca j) = nI z := (hC.1 j hj).2.2.2.1.trans e0
  have hno := none_other (a := a) (fun b hb => (hM.2.2.2.1 b hb).2) hpair h33 (by rw [h30]; decide) (by rw [h30]; decide) (Or.inr hst.1)
  have hin : vp_in (nI i) 40 := q_in (by omega) (by decide)
  have hjn : vp_in (nI j) 20 := q_in (by omega) (by decide)
  have hwn : vp_in (nI w) 6 := q_in hw (by decide)
  have eM : mLoan m i = mLn (mBill m w z n) i j w d := by
    unfold mLoan
    rw [e11, e8, n1, d1, i2n_nI (show j < 1000000000 by omega), i2n_nI (show w < 1000000000 by omega), e0, i2n_nI (show z < 1000000000 by omega), i2n_nI (show n < 1000000000 by omega), i2n_nI (show d < 1000000000 by omega)]
  refine ⟨fun Q2 hq => ?_, hm1, fun b Q hq => ?_⟩
  · rw [eM] at hq
    refine bi (by decide) (bn (by decide) (bn (by decide) (bn (by decide) ⟨hin, hin, hin, ?_⟩)))
    rw [q_cl (show i < 1000000 by omega), e11, e8, q_cl (show j < 1000000 by omega), q_cl (show w < 1000000 by omega)]
    refine bi hm1 (sm_homes n1 n3 ?_)
    unfold mBill at hq
    have d20 : ∀ M : mS, M 22 0 = nI d → M 22 0 + 20 = nI (d + 20) := fun M e => by rw [e, show (20 : Int32) = nI 20 from rfl, nI_add]
    by_cases e3 : (3 : Int32) ≤ nI (cnt (m 0) w n)
    · rw [if_pos e3] at hq
      refine bi e3 ⟨hwn, hwn, ?_⟩
      rintro m1 rfl
      refine ⟨hjn, ?_⟩
      rw [show mset m 21 w (m 21 w + 0) 0 j = nI z from e0]
      refine sm_owe hw hz ⟨hjn, ?_⟩
      rintro m2 rfl
      refine ⟨hjn, ?_⟩
      rintro m3 rfl
      refine ⟨hin, ?_⟩
      rintro m4 rfl
      refine ⟨hin, ?_⟩
      rw [d20 (mset (mset (mset (owed (mset m 21 w (m 21 w + 0)) w z 6) 2 j (nI w)) 3 j (nI w)) 10 i 2) d1]
      rintro m5 rfl
      exact hq
    · rw [if_neg e3] at hq
      refine bn e3 ⟨hwn, ?_⟩
      by_cases e2 : (2 : Int32) ≤ m 21 w
      · rw [if_pos e2] at hq
        refine bi e2 ⟨hwn, hwn, ?_⟩
        rintro m1 rfl
        refine ⟨hjn, ?_⟩
        rw [show mset m 21 w (m 21 w + 0) 0 j = nI z from e0]
        refine sm_owe hw hz ⟨hjn, ?_⟩
        rintro m2 rfl
        refine ⟨hjn, ?_⟩
        rintro m3 rfl
        refine ⟨hin, ?_⟩
        rintro m4 rfl
        refine ⟨hin, ?_⟩
        rw [d20 (mset (mset (mset (owed (mset m 21 w (m 21 w + 0)) w z 6) 2 j (nI w)) 3 j (nI w)) 10 i 2) d1]
        rintro m5 rfl
        exact hq
      · rw [if_neg e2] at hq
        refine bn e2 ⟨hwn, hwn, ?_⟩
        rintro m1 rfl
        refine ⟨hjn, ?_⟩
        rw [show mset m 21 w (m 21 w + 1) 0 j = nI z from e0]
        refine sm_owe hw hz ⟨hjn, ?_⟩
        rintro m2 rfl
        refine ⟨hjn, ?_⟩
        rintro m3 rfl
        refine ⟨hin, ?_⟩
        rintro m4 rfl
        refine ⟨hin, ?_⟩
        rw [d20 (mset (mset (mset (owed (mset m 21 w (m 21 w + 1)) w z 0) 2 j (nI w)) 3 j (nI w)) 10 i 2) d1]
        rintro m5 rfl
        exact hq
  · rw [eM] at hq
    refine sx_dv (hst.2.trans ep) h33 ⟨no_eq h30 (by decide), fun _ => ?_, no_eq h30 (by decide), no_eq h30 (by decide), no_eq h30 (by decide), fun e => absurd h30 e.2.1⟩
    obtain ⟨kx, x1, x2, x3, x4⟩ := bill_both (S0 := S0) (k := kLn k (ca j) (ra i) w d) (m := m) hA n3 hw hz (by omega)
    unfold wX5_beginLoan
    rw [e20]
    rintro k1 rfl k2 rfl k3 rfl k4 rfl
    have d20 : (kset (kset (kset k 13 (ca j) (nI w)) 14 (ca j) 0) 23 (ra i) 2).1 2 0 + 20 = nI (d + 20) := by
      show k.1 2 0 + 20 = _
      rw [d2, show (20 : Int32) = nI 20 from rfl, nI_add]
    rw [d20]
    show wX0_chargeLoan S0 (kLn k (ca j) (ra i) w d) ((kLn k (ca j) (ra i) w d).1 20 (ra i)) ((kLn k (ca j) (ra i) w d).1 11 (ca j)) _
    rw [show (kLn k (ca j) (ra i) w d).1 20 (ra i) = nI w from e20, show (kLn k (ca j) (ra i) w d).1 11 (ca j) = nI z from e11k]
    refine x4 _ (hq kx (dpost_nil (core_loan (core_mono hcore (U' := UB (t + 1)) (E' := EB c t) (by rw [← UB_up]; omega) (Nat.le_refl _)) hi hj hw e11 ep x1 x2 (fun a h1 h2 => mBill_c m w z n h1 h2) (pA_mono x3 (by rw [← EB_up]; omega)) hno (by unfold UB; omega)) ?_ ?_))
    · funext x
      unfold arr
      rw [x1 31 (by decide) (by decide)]
      rfl
    · have : Gr (mLn (mBill m w z n) i j w d 10) r = Gr (m 10) r := by
        show Gr (upd (mBill m w z n 10) i 2) r = _
        rw [mBill_c m w z n (by decide) (by decide)]
        have := Gr_set (m 10) i 2 r hi
        rw [hm1, show g1 1 = 1 by decide, show g1 2 = 1 by decide] at this
        omega
      rw [this]
      omega
