/-! PURE: one arrival, on both sides; how much it may cost -/
def pt (s w : Int32) : Nat := if s = 0 then 3 + 2 * (6 - pop6 (i2n w)) else if s = 3 then 1 else 0
def Pot (m : mS) : Nat → Nat
  | 0 => 0
  | n + 1 => Pot m n + pt (m 10 n) (m 13 n)
theorem Pot_cg {m m' : mS} : ∀ n, (∀ x, x < n → m' 10 x = m 10 x ∧ m' 13 x = m 13 x) → Pot m' n = Pot m n := by
  intro n
  induction n with
  | zero => intro _; rfl
  | succ n ih =>
    intro h
    show Pot m' n + pt (m' 10 n) (m' 13 n) = Pot m n + pt (m 10 n) (m 13 n)
    rw [ih (fun x hx => h x (by omega)), (h n (by omega)).1, (h n (by omega)).2]
theorem Pot_set {m m' : mS} {i : Nat} (h : ∀ x, x ≠ i → m' 10 x = m 10 x ∧ m' 13 x = m 13 x) : ∀ n, i < n → Pot m' n + pt (m 10 i) (m 13 i) = Pot m n + pt (m' 10 i) (m' 13 i) := by
  intro n
  induction n with
  | zero => intro h; omega
  | succ n ih =>
    intro hi
    show Pot m' n + pt (m' 10 n) (m' 13 n) + pt (m 10 i) (m 13 i) = Pot m n + pt (m 10 n) (m 13 n) + pt (m' 10 i) (m' 13 i)
    by_cases e : i = n
    · subst e
      rw [Pot_cg i (fun x hx => h x (by omega))]
      omega
    · rw [(h n (by omega)).1, (h n (by omega)).2]
      have := ih (by omega)
      omega
theorem Pot_le (m : mS) : ∀ n, Pot m n ≤ 15 * n := by
  intro n
  induction n with
  | zero => exact Nat.le_refl _
  | succ n ih =>
    show Pot m n + pt (m 10 n) (m 13 n) ≤ _
    have : pt (m 10 n) (m 13 n) ≤ 15 := by
      unfold pt
      split
      · omega
      · split <;> omega
    omega
def mArr0 (m : mS) (x y : Int32) : mS := if x = 2 then mAns m (i2n y) else if x = 3 then mRen m (i2n y) else if x = 4 then mRec m (i2n y) else if x = 5 then (if m 10 (i2n y) = 1 then mLoan m (i2n y) else mHome m (i2n y)) else mset m 4 (i2n y) x
def bArr (m : mS) (x y : Int32) : Nat := if x = 2 then 2 else if x = 5 then (if m 10 (i2n y) = 1 then 0 else 1) else 0
def mArr (r : Nat) (m : mS) (x y : Int32) : mS := if bArr m x y + Pot (mArr0 m x y) r ≤ Pot m r then mArr0 m x y else m
theorem Pot_arr (r : Nat) (m : mS) (x y : Int32) : Pot (mArr r m x y) r ≤ Pot m r := by
  unfold mArr
  split
  · omega
  · exact Nat.le_refl _
theorem mFind_c (m : mS) (i : Nat) {a : Nat} (h1 : a ≠ 6) (h2 : a ≠ 20) : mFind m i a = m a := by
  unfold mFind
  split
  · rfl
  · split
    · rfl
    · split
      · exact ms_c _ _ _ _ h1
      · exact (owed_c _ _ _ _ h2).trans (ms_c _ _ _ _ h1)
theorem arrive_both {S0 : Nat} {k : kS} {m : mS} {n r d c t a : Nat} {ca ra : Nat → Nat} {A QC : List Nat} {x y z : Int32} (h : Arr1 k m n r d c t ca ra A QC a) (hU : UB t < 1000000000) (hrow : mRow k n r ca ra a x y z) :
    (∀ Q2 : mS → Prop, Q2 (mArr r m x y) → wX6_arrive m x y Q2) ∧ bArr m x y + Pot (mArr r m x y) r ≤ Pot m r ∧ (∀ (Q : kS → Prop), (∀ k', DPost k (mArr r m x y) n r d c t ca ra A QC k' → Q k') → wX5_deliver S0 (bArr m x y) k a Q) := by
  have hn20 : n ≤ 20 := h.1.1.2.2
  have hr40 : r ≤ 40 := h.1.2.1.2.2
  have key : (∀ Q2 : mS → Prop, Q2 (mArr0 m x y) → wX6_arrive m x y Q2) ∧ bArr m x y + Pot (mArr0 m x y) r ≤ Pot m r ∧ (∀ (Q : kS → Prop), (∀ k', DPost k (mArr0 m x y) n r d c t ca ra A QC k' → Q k') → wX5_deliver S0 (bArr m x y) k a Q) := by
    obtain ⟨-, -, -, hr⟩ := hrow
    rcases hr with ⟨e33, i, hi, ey, e32, hx⟩ | ⟨i, c1, hi, ey, e33, e32, hx⟩
    · subst ey
      have ei : i2n (nI i) = i := i2n_nI (by omega)
      have hm : mArr0 m x (nI i) = mset m 4 i x := by
        unfold mArr0
        rw [ei]
        rcases hx with ⟨e, -⟩ | ⟨e, -⟩ <;> subst e <;> rw [if_neg (by decide), if_neg (by decide), if_neg (by decide), if_neg (by decide)]
      have hb : bArr m x (nI i) = 0 := by
        unfold bArr
        rcases hx with ⟨e, -⟩ | ⟨e, -⟩ <;> subst e <;> rw [if_neg (by decide), if_neg (by decide)]
      rw [hm, hb]
      obtain ⟨g1, g2⟩ := dv_news (S0 := S0) h e33 hi e32 hx
      exact ⟨g1, by rw [Nat.zero_add, Pot_cg (m := m) (m' := mset m 4 i x) r (fun _ _ => ⟨rfl, rfl⟩)]; exact Nat.le_refl _, g2 0⟩
    · subst ey
      have ei : i2n (nI i) = i := i2n_nI (by omega)
      rcases hx with ⟨e, e30⟩ | ⟨e, e30⟩ | ⟨e, e30⟩ | ⟨e, e30⟩ | ⟨e, e30⟩
      · subst e
        have hm : mArr0 m 2 (nI i) = mAns m i := by unfold mArr0; rw [ei, if_pos rfl]
        have hb : bArr m 2 (nI i) = 2 := by unfold bArr; rw [if_pos rfl]
        rw [hm, hb]
        obtain ⟨g1, g2, ⟨v, hv, g3, g4⟩, g5, g6⟩ := dv_ask (S0 := S0) h e33 hi e30
        refine ⟨g1, ?_, g6 2 (Nat.le_refl _)⟩
        have hp := Pot_set g5 r hi
        have hv6 := pop6_le v hv
        have e1 : pt (m 10 i) (m 13 i) = 3 + 2 * (6 - pop6 v) := by
          unfold pt
          rw [if_pos g2, g3, i2n_nI (by omega)]
        rw [e1] at hp
        rcases g4 with g4 | g4 | ⟨g4, v', hv', g7, g8⟩
        · rw [g4, show pt 1 (mAns m i 13 i) = 0 by unfold pt; rw [if_neg (by decide), if_neg (by decide)]] at hp
          omega
        · rw [g4, show pt 5 (mAns m i 13 i) = 0 by unfold pt; rw [if_neg (by decide), if_neg (by decide)]] at hp
          omega
        · have hv6' := pop6_le v' hv'
          rw [g4, g7, show pt 0 (nI v') = 3 + 2 * (6 - pop6 v') by unfold pt; rw [if_pos rfl, i2n_nI (by omega)]] at hp
          omega
      · subst e
        have hm : mArr0 m 3 (nI i) = mRen m i := by unfold mArr0; rw [ei, if_neg (by decide), if_pos rfl]
        have hb : bArr m 3 (nI i) = 0 := by unfold bArr; rw [if_neg (by decide), if_neg (by decide)]
        rw [hm, hb]
        obtain ⟨g1, g2⟩ := dv_renew (S0 := S0) h hU e33 hi e32 e30
        refine ⟨g1, ?_, g2 0⟩
        rw [Nat.zero_add, Pot_cg (m := m) (m' := mRen m i) r (fun _ _ => ?_)]
        · exact Nat.le_refl _
        · unfold mRen
          split <;> exact ⟨rfl, rfl⟩
      · subst e
        have hm : mArr0 m 4 (nI i) = mRec m i := by unfold mArr0; rw [ei, if_neg (by decide), if_neg (by decide), if_pos rfl]
        have hb : bArr m 4 (nI i) = 0 := by unfold bArr; rw [if_neg (by decide), if_neg (by decide)]
        rw [hm, hb]
        obtain ⟨g1, g2⟩ := dv_recall (S0 := S0) h e33 hi e32 e30
        refine ⟨g1, ?_, g2 0⟩
        rw [Nat.zero_add, Pot_cg (m := m) (m' := mRec m i) r (fun _ _ => ?_)]
        · exact Nat.le_refl _
        · unfold mRec
          split
          · split <;> exact ⟨rfl, rfl⟩
          · exact ⟨rfl, rfl⟩
      · subst e
        obtain ⟨g1, g2, g3⟩ := dv_loan (S0 := S0) h e33 hi e30
        have hm : mArr0 m 5 (nI i) = mLoan m i := by unfold mArr0; rw [ei, if_neg (by decide), if_neg (by decide), if_neg (by decide), if_pos rfl, if_pos g2]
        have hb : bArr m 5 (nI i) = 0 := by unfold bArr; rw [ei, if_neg (by decide), if_pos rfl, if_pos g2]
        rw [hm, hb]
        refine ⟨g1, ?_, g3 0⟩
        have e10 : mLoan m i 10 = upd (m 10) i 2 := by
          show upd (mBill m _ _ _ 10) i 2 = _
          rw [mBill_c m _ _ _ (by decide) (by decide)]
        have e13 : mLoan m i 13 = m 13 := by
          show mBill m _ _ _ 13 = _
          exact mBill_c m _ _ _ (by decide) (by decide)
        have hp := Pot_set (m := m) (m' := mLoan m i) (i := i) (fun x hx => ⟨by rw [e10]; exact upd_n _ _ hx, by rw [e13]⟩) r hi
        rw [e10, upd_s, g2, show pt 1 (m 13 i) = 0 by unfold pt; rw [if_neg (by decide), if_neg (by decide)], show pt 2 (mLoan m i 13 i) = 0 by unfold pt; rw [if_neg (by decide), if_neg (by decide)]] at hp
        omega
      · subst e
        obtain ⟨g1, g2, g3⟩ := dv_home (S0 := S0) h e33 hi e30
        have g2' : ¬ m 10 i = 1 := by rw [g2]; decide
        have hm : mArr0 m 5 (nI i) = mHome m i := by unfold mArr0; rw [ei, if_neg (by decide), if_neg (by decide), if_neg (by decide), if_pos rfl, if_neg g2']
        have hb : bArr m 5 (nI i) = 1 := by unfold bArr; rw [ei, if_neg (by decide), if_pos rfl, if_neg g2']
        rw [hm, hb]
        refine ⟨g1, ?_, g3 1 (Nat.le_refl _)⟩
        have ecol : ∀ b, b = 10 ∨ b = 13 → ∀ j z u d, mHom m i j z u d b = mH m i j z b := by
          intro b hb j z u d
          unfold mHom
          split
          · refine Eq.trans ?_ (mFind_c (mH m i j z) j (a := b) (by omega) (by omega))
            rcases hb with hb | hb <;> subst hb <;> rfl
          · exact mFind_c (mH m i j z) j (by omega) (by omega)
        have e10 : mHome m i 10 = upd (m 10) i 4 := (ecol 10 (Or.inl rfl) _ _ _ _).trans rfl
        have e13 : mHome m i 13 = m 13 := (ecol 13 (Or.inr rfl) _ _ _ _).trans rfl
        have hp := Pot_set (m := m) (m' := mHome m i) (i := i) (fun x hx => ⟨by rw [e10]; exact upd_n _ _ hx, by rw [e13]⟩) r hi
        rw [e10, upd_s, g2, show pt 3 (m 13 i) = 1 by unfold pt; rw [if_neg (by decide), if_pos rfl], show pt 4 (mHome m i 13 i) = 0 by unfold pt; rw [if_neg (by decide), if_neg (by decide)]] at hp
        omega
  have e : mArr r m x y = mArr0 m x y := if_pos key.2.1
  rw [e]
  exact key
