/-! THE PROPERTY under each call -/
def JX (m : mS) (cc : Nat) : Prop := ∃ n r, m 7 0 = nI n ∧ m 15 0 = nI r ∧ n ≤ 20 ∧ r ≤ 40 ∧ J m n r cc 0 (i2n (m 19 0))
theorem JX_use {m : mS} {cc n r : Nat} (h : JX m cc) (n1 : m 7 0 = nI n) (hn : n ≤ 20) (r1 : m 15 0 = nI r) (hr : r ≤ 40) : J m n r cc 0 (i2n (m 19 0)) := by
  obtain ⟨n', r', e1, e2, h1, h2, hJ⟩ := h
  obtain rfl : n' = n := q_inj (by omega) (by omega) (e1.symm.trans n1)
  obtain rfl : r' = r := q_inj (by omega) (by omega) (e2.symm.trans r1)
  exact hJ
def jc (a : Nat) : Prop := a = 0 ∨ a = 1 ∨ a = 2 ∨ a = 3 ∨ a = 4 ∨ a = 8 ∨ a = 9 ∨ a = 10 ∨ a = 11 ∨ a = 12 ∨ a = 21
theorem J_cols {m m1 : mS} {n r c c' lo u u' : Nat} (h : J m n r c lo u) (e : ∀ a, jc a → m1 a = m a) (hD : JD r c' (rnw m1 lo u') (m 12)) : J m1 n r c' lo u' := by
  obtain ⟨b1, b2, b3, b4⟩ := h
  refine ⟨?_, ?_, ?_, ?_⟩
  · rw [e 0 (by unfold jc; omega), e 1 (by unfold jc; omega), e 2 (by unfold jc; omega), e 3 (by unfold jc; omega), e 8 (by unfold jc; omega), e 9 (by unfold jc; omega), e 10 (by unfold jc; omega), e 11 (by unfold jc; omega)]
    exact b1
  · rw [e 4 (by unfold jc; omega)]; exact b2
  · rw [e 21 (by unfold jc; omega)]; exact b3
  · rw [e 12 (by unfold jc; omega)]; exact hD
theorem mSend_c (m : mS) (u : Nat) (x y z : Int32) {a : Nat} (h : a < 16 ∨ 19 < a) : mSend m u x y z a = m a := (ms_c _ _ _ _ (show a ≠ 19 by omega)).trans ((ms_c _ _ _ _ (show a ≠ 18 by omega)).trans ((ms_c _ _ _ _ (show a ≠ 17 by omega)).trans (ms_c _ _ _ _ (show a ≠ 16 by omega))))
def PP (m : mS) (P : Int32 → mS → Prop) (v : Int32) (m1 : mS) : Prop := (m1 23 0 = 0 ∧ P v m1) ∨ (m1 23 0 ≠ 0 ∧ ∃ x, m1 = mset m 23 0 x)
theorem ok_pp {m : mS} {P : Int32 → mS → Prop} {v : Int32} {m1 : mS} (h : m1 23 0 = 0) (p : P v m1) : PP m P v m1 := Or.inl ⟨h, p⟩
theorem thr_pp {m : mS} {P : Int32 → mS → Prop} {v x : Int32} (h : x ≠ 0) : PP m P v (mset m 23 0 x) := Or.inr ⟨by
  have e : mset m 23 0 x 23 0 = x := by
    show upd (m 23) 0 x 0 = x
    exact upd_s _ _ _
  rw [e]; exact h, x, rfl⟩
def OpP (m : mS) (R : kS → mS → Prop) (E1 : String) (w6 : (Int32 → mS → Prop) → Prop) (w5 : (Int32 → kS → Prop) → (String → kS → Prop) → Prop) (P : Int32 → mS → Prop) : Prop :=
  ∃ (v : Int32) (m1 : mS), (∀ Q2 : Int32 → mS → Prop, Q2 v m1 → w6 Q2) ∧ ((m1 23 0 = 0 ∧ ∀ (Q : Int32 → kS → Prop) (QX : String → kS → Prop), (∀ k1, R k1 m1 → Q v k1) → w5 Q QX) ∨ (m1 23 0 = 1 ∧ ∀ (Q : Int32 → kS → Prop) (QX : String → kS → Prop), (∀ k1, R k1 m1 → QX E1 k1) → w5 Q QX) ∨ (m1 23 0 = 2 ∧ ∀ (Q : Int32 → kS → Prop) (QX : String → kS → Prop), (∀ k1, R k1 m1 → QX "java/lang/IllegalStateException" k1) → w5 Q QX)) ∧ PP m P v m1
/-- a call goes through, with P, or is refused and nothing has changed -/
theorem op_run {m : mS} {R : kS → mS → Prop} {E1 : String} {w6 : (Int32 → mS → Prop) → Prop} {w5 : (Int32 → kS → Prop) → (String → kS → Prop) → Prop} {P : Int32 → mS → Prop} (h : OpP m R E1 w6 w5 P) {Q : Int32 → kS → Prop} {QX : String → kS → Prop} (hq : ∀ v m1 k1, P v m1 → R k1 m1 → Q v k1) (hx : ∀ x k1, R k1 (mset m 23 0 x) → QX E1 k1) (hy : ∀ x k1, R k1 (mset m 23 0 x) → QX "java/lang/IllegalStateException" k1) : w5 Q QX := by
  obtain ⟨v, m1, -, h1, h2⟩ := h
  rcases h1 with ⟨e, h1⟩ | ⟨e, h1⟩ | ⟨e, h1⟩
  · rcases h2 with ⟨-, p⟩ | ⟨e2, -⟩
    · exact h1 Q QX (fun k1 hk => hq v m1 k1 p hk)
    · exact absurd e e2
  · rcases h2 with ⟨e2, -⟩ | ⟨-, x, rfl⟩
    · rw [e] at e2; exact absurd e2 (by decide)
    · exact h1 Q QX (fun k1 hk => hx x k1 hk)
  · rcases h2 with ⟨e2, -⟩ | ⟨-, x, rfl⟩
    · rw [e] at e2; exact absurd e2 (by decide)
    · exact h1 Q QX (fun k1 hk => hy x k1 hk)
def Vn (v : Int32) : Prop := ∃ w, w ≤ 1000000 ∧ v = nI w
def Vl (v : Int32) : Prop := v = -1 ∨ ∃ w, w < 6 ∧ v = nI w
def PQ (m : mS) (cc : Nat) (V : Int32 → Prop) (v : Int32) (m1 : mS) : Prop := JX m1 (cc + 1) ∧ m1 7 0 = m 7 0 ∧ m1 15 0 = m 15 0 ∧ (∀ a, kc4 a → m1 a = m a) ∧ V v
theorem pq_same {m m1 : mS} {cc : Nat} {V : Int32 → Prop} {v : Int32} (hJ : JX m cc) (e : ∀ a, a ≠ 5 → a ≠ 6 → a ≠ 20 → a ≠ 23 → m1 a = m a) (hv : V v) : PQ m cc V v m1 := by
  obtain ⟨n, r, e1, e2, h1, h2, hj⟩ := hJ
  have e19 : m1 19 = m 19 := e 19 (by decide) (by decide) (by decide) (by decide)
  have e7 : m1 7 = m 7 := e 7 (by decide) (by decide) (by decide) (by decide)
  have e15 : m1 15 = m 15 := e 15 (by decide) (by decide) (by decide) (by decide)
  refine ⟨⟨n, r, by rw [e7]; exact e1, by rw [e15]; exact e2, h1, h2, ?_⟩, by rw [e7], by rw [e15], fun a ha => e a (by unfold kc4 at ha; omega) (by unfold kc4 at ha; omega) (by unfold kc4 at ha; omega) (by unfold kc4 at ha; omega), hv⟩
  rw [e19]
  refine J_cols hj (fun a ha => e a (by unfold jc at ha; omega) (by unfold jc at ha; omega) (by unfold jc at ha; omega) (by unfold jc at ha; omega)) ?_
  have er : rnw m1 0 (i2n (m 19 0)) = rnw m 0 (i2n (m 19 0)) := rnw_cg _ _ (fun x _ => ⟨by rw [e 16 (by decide) (by decide) (by decide) (by decide)], by rw [e 18 (by decide) (by decide) (by decide) (by decide)]⟩) (by rw [e 22 (by decide) (by decide) (by decide) (by decide)])
  rw [er]
  exact JD_mono hj.2.2.2 (Nat.le_refl _) (by omega)
theorem JD_send {r c R R' : Nat} {f12 : Nat → Int32} (h : JD r c R f12) (hR : R' ≤ R + 1) : JD r (c + 1) R' f12 := by
  refine ⟨fun i hi => ?_, by have := h.2; omega⟩
  obtain ⟨w, e, hw⟩ := h.1 i hi
  exact ⟨w, e, by omega⟩
theorem pq_send {m base : mS} {cc u : Nat} {V : Int32 → Prop} {v x y z : Int32} (hJ : JX m cc) (hu : m 19 0 = nI u) (hu2 : u ≤ 3000) (e : ∀ a, a ≠ 5 → a ≠ 6 → a ≠ 14 → a ≠ 20 → a ≠ 23 → base a = m a) (hv : V v) : PQ m cc V v (mSend base u x y z) := by
  obtain ⟨n, r, e1, e2, h1, h2, hj⟩ := hJ
  have es : ∀ a, (a < 16 ∨ 19 < a) → a ≠ 5 → a ≠ 6 → a ≠ 14 → a ≠ 20 → a ≠ 23 → mSend base u x y z a = m a := fun a h0 h1 h2 h3 h4 h5 => (mSend_c _ _ _ _ _ h0).trans (e a h1 h2 h3 h4 h5)
  have e7 : mSend base u x y z 7 = m 7 := es 7 (by decide) (by decide) (by decide) (by decide) (by decide) (by decide)
  have e15 : mSend base u x y z 15 = m 15 := es 15 (by decide) (by decide) (by decide) (by decide) (by decide) (by decide)
  refine ⟨⟨n, r, by rw [e7]; exact e1, by rw [e15]; exact e2, h1, h2, ?_⟩, by rw [e7], by rw [e15], fun a ha => es a (by unfold kc4 at ha; omega) (by unfold kc4 at ha; omega) (by unfold kc4 at ha; omega) (by unfold kc4 at ha; omega) (by unfold kc4 at ha; omega) (by unfold kc4 at ha; omega), hv⟩
  rw [mSend_19, i2n_q (by omega)]
  rw [hu, i2n_q (by omega)] at hj
  refine J_cols hj (fun a ha => es a (by unfold jc at ha; omega) (by unfold jc at ha; omega) (by unfold jc at ha; omega) (by unfold jc at ha; omega) (by unfold jc at ha; omega) (by unfold jc at ha; omega)) ?_
  have er : rnw base 0 u = rnw m 0 u := rnw_cg _ _ (fun x _ => ⟨by rw [e 16 (by decide) (by decide) (by decide) (by decide) (by decide)], by rw [e 18 (by decide) (by decide) (by decide) (by decide) (by decide)]⟩) (by rw [e 22 (by decide) (by decide) (by decide) (by decide) (by decide)])
  refine JD_send hj.2.2.2 ?_
  rw [← er]
  exact rnw_send1
theorem pq_back {m : mS} {cc n r u i j x1 x2 : Nat} {V : Int32 → Prop} {v s y z : Int32} (hJ : JX m cc) (n1 : m 7 0 = nI n) (hn : n ≤ 20) (r1 : m 15 0 = nI r) (hr : r ≤ 40) (hu : m 19 0 = nI u) (hu2 : u ≤ 3000) (hi : i < r) (hj : j < n) (h2 : m 10 i = 2) (e11 : m 11 i = nI j) (hv : V v) : PQ m cc V v (mSend (mset (mset (owed (mset m 23 0 0) x1 x2 s) 10 i 3) 2 j (-1)) u 5 y z) := by
  have hjj := JX_use hJ n1 hn r1 hr
  rw [hu, i2n_q (by omega)] at hjj
  obtain ⟨b1, b2, b3, b4⟩ := hjj
  have hb2 : bz (m 10 i) := Or.inr (Or.inl h2)
  obtain ⟨j', hj', e', q1, q2, q3⟩ := J_copy b1 hi (by rw [h2]; decide)
  have ej : j' = j := q_inj (by omega) (by omega) (e'.symm.trans e11)
  subst ej
  have h3j : m 3 j' = m 8 i := by
    rcases q3 with e | e | ⟨e, -⟩ | ⟨-, e, -⟩ | ⟨e, -⟩
    · rw [h2] at e; exact absurd e (by decide)
    · rw [h2] at e; exact absurd e (by decide)
    · rw [h2] at e; exact absurd e (by decide)
    · exact e
    · rw [h2] at e; exact absurd e (by decide)
  have eo : ∀ a, a ≠ 20 → a ≠ 23 → owed (mset m 23 0 0) x1 x2 s a = m a := fun a h1 h2 => (owed_c _ _ _ _ h1).trans (ms_c _ _ _ _ h2)
  have es : ∀ a, (a < 16 ∨ 19 < a) → a ≠ 20 → a ≠ 23 → a ≠ 10 → a ≠ 2 → mSend (mset (mset (owed (mset m 23 0 0) x1 x2 s) 10 i 3) 2 j' (-1)) u 5 y z a = m a := fun a h0 h1 h2 h3 h4 => (mSend_c _ _ _ _ _ h0).trans ((ms_c _ _ _ _ h4).trans ((ms_c _ _ _ _ h3).trans (eo a h1 h2)))
  refine ⟨⟨n, r, ?_, ?_, hn, hr, ?_⟩, ?_, ?_, fun a ha => es a (by unfold kc4 at ha; omega) (by unfold kc4 at ha; omega) (by unfold kc4 at ha; omega) (by unfold kc4 at ha; omega) (by unfold kc4 at ha; omega), hv⟩
  · rw [es 7 (by decide) (by decide) (by decide) (by decide) (by decide)]; exact n1
  · rw [es 15 (by decide) (by decide) (by decide) (by decide) (by decide)]; exact r1
  · rw [mSend_19, i2n_q (by omega)]
    refine ⟨?_, ?_, ?_, ?_⟩
    · rw [es 0 (by decide) (by decide) (by decide) (by decide) (by decide), es 1 (by decide) (by decide) (by decide) (by decide) (by decide), es 3 (by decide) (by decide) (by decide) (by decide) (by decide), es 8 (by decide) (by decide) (by decide) (by decide) (by decide), es 9 (by decide) (by decide) (by decide) (by decide) (by decide), es 11 (by decide) (by decide) (by decide) (by decide) (by decide)]
      show JB n r (m 0) (m 1) (upd (m 2) j' (-1)) (m 3) (m 8) (m 9) (upd (m 10) i 3) (m 11)
      refine JB_move b1 hn hi hj e11 (JB_un b1 hi hb2 e11) (fun x hx => upd_n _ _ hx) (fun _ _ => rfl) (fun x hx => upd_n _ _ hx) ?_ (fun h => absurd ?_ h)
      · rw [upd_s, upd_s]
        exact Or.inr (Or.inr (Or.inr (Or.inr ⟨rfl, h3j, rfl⟩)))
      · rw [upd_s]
        exact Or.inr (Or.inr rfl)
    · rw [es 4 (by decide) (by decide) (by decide) (by decide) (by decide)]; exact b2
    · rw [es 21 (by decide) (by decide) (by decide) (by decide) (by decide)]; exact b3
    · rw [es 12 (by decide) (by decide) (by decide) (by decide) (by decide), rnw_send (by decide)]
      have er : rnw (mset (mset (owed (mset m 23 0 0) x1 x2 s) 10 i 3) 2 j' (-1)) 0 u = rnw m 0 u := rnw_cg _ _ (fun _ _ => ⟨rfl, rfl⟩) rfl
      rw [er]
      exact JD_mono b4 (Nat.le_refl _) (by omega)
  · rw [es 7 (by decide) (by decide) (by decide) (by decide) (by decide)]
  · rw [es 15 (by decide) (by decide) (by decide) (by decide) (by decide)]
theorem inv_find {m : mS} {p : Int32} {Q : Int32 → mS → Prop} (h : wX6_find m p Q) : ∃ v m1, Q v m1 ∧ (v = -1 ∨ (v = m 5 p.toNatClampNeg ∧ ¬ m 5 p.toNatClampNeg < 0)) := by
  obtain ⟨-, h⟩ := h
  by_cases c1 : m 5 p.toNatClampNeg < 0
  · exact ⟨_, _, h.1 c1, Or.inl rfl⟩
  · obtain ⟨-, h⟩ := h.2 c1
    by_cases c2 : m 6 p.toNatClampNeg = 1
    · exact ⟨_, _, h.1 c2, Or.inl rfl⟩
    · obtain ⟨-, h⟩ := h.2 c2
      obtain ⟨-, -, h⟩ := h _ rfl
      by_cases c3 : mset m 6 p.toNatClampNeg 1 5 p.toNatClampNeg = mset m 6 p.toNatClampNeg 1 0 p.toNatClampNeg
      · exact ⟨_, _, (h.1 c3).2, Or.inr ⟨rfl, c1⟩⟩
      · obtain ⟨-, -, h⟩ := h.2 c3
        obtain ⟨-, -, h⟩ := h
        obtain ⟨-, -, h⟩ := h _ rfl
        exact ⟨_, _, (h _ rfl).2, Or.inr ⟨rfl, c1⟩⟩
/-- a copy has been added -/
def PAd (m : mS) (cc : Nat) (p p2 v : Int32) (m1 : mS) : Prop := ∃ n, (∃ a, a < 6 ∧ p = nI a) ∧ (∃ t, t < 8 ∧ p2 = nI t) ∧ m 7 0 = nI n ∧ n < 20 ∧ v = nI n ∧ JX m1 (cc + 1) ∧ m1 7 0 = nI (n + 1) ∧ m1 15 0 = m 15 0 ∧ m1 0 = upd (m 0) n p ∧ m1 1 = upd (m 1) n p2 ∧ m1 8 = m 8 ∧ m1 9 = m 9 ∧ m1 4 n = -1 ∧ m1 2 n = m1 0 n ∧ m1 6 n = 0
theorem pad_ok {m : mS} {cc n r u a : Nat} {t2 y z : Int32} (ha : a < 6) (ht : ∃ t, t < 8 ∧ t2 = nI t) (hJ : JX m cc) (n1 : m 7 0 = nI n) (hn : n < 20) (r1 : m 15 0 = nI r) (hr : r ≤ 40) (hu : m 19 0 = nI u) (hu2 : u ≤ 3000) (h6 : m 6 n = 0) : PAd m cc (nI a) t2 (nI n) (mSend (mset (mAdd m n a t2) 7 0 (nI (n + 1))) u 1 y z) := by
  have hjj := JX_use hJ n1 (by omega) r1 hr
  rw [hu, i2n_q (by omega)] at hjj
  obtain ⟨b1, b2, b3, b4⟩ := hjj
  refine ⟨n, ⟨a, ha, rfl⟩, ht, n1, hn, rfl, ⟨n + 1, r, ?_, r1, by omega, hr, ?_⟩, ?_, rfl, rfl, rfl, rfl, rfl, upd_s _ _ _, ?_, h6⟩
  · show upd (m 7) 0 (nI (n + 1)) 0 = _
    exact upd_s _ _ _
  · rw [mSend_19, i2n_q (by omega)]
    refine ⟨?_, ?_, b3, ?_⟩
    · show JB (n + 1) r (upd (m 0) n (nI a)) (upd (m 1) n t2) (upd (m 2) n (nI a)) (upd (m 3) n (nI a)) (m 8) (m 9) (m 10) (m 11)
      exact JB_add b1 (fun x hx => upd_n _ _ hx) (fun x hx => upd_n _ _ hx) (fun x hx => upd_n _ _ hx) (fun x hx => upd_n _ _ hx) (by rw [upd_s, upd_s]) (by rw [upd_s, upd_s])
    · show JK (n + 1) (upd (m 4) n (-1))
      intro x hx
      by_cases e : x = n
      · rw [e, upd_s]; exact Or.inl rfl
      · rw [upd_n _ _ e]; exact b2 x (by omega)
    · show JD r (cc + 1) (rnw (mSend (mset (mAdd m n a t2) 7 0 (nI (n + 1))) u 1 y z) 0 (u + 1)) (m 12)
      rw [rnw_send (by decide)]
      have er : rnw (mset (mAdd m n a t2) 7 0 (nI (n + 1))) 0 u = rnw m 0 u := rnw_cg _ _ (fun _ _ => ⟨rfl, rfl⟩) rfl
      rw [er]
      exact JD_mono b4 (Nat.le_refl _) (by omega)
  · show upd (m 7) 0 (nI (n + 1)) 0 = _
    exact upd_s _ _ _
  · show upd (m 2) n (nI a) n = upd (m 0) n (nI a) n
    rw [upd_s, upd_s]
/-- a request has been made -/
def PRq (m : mS) (cc : Nat) (p p2 v : Int32) (m1 : mS) : Prop := ∃ n r a, (∃ t, t < 8 ∧ p2 = nI t) ∧ m 7 0 = nI n ∧ n ≤ 20 ∧ m 15 0 = nI r ∧ r < 40 ∧ a < 6 ∧ p = nI a ∧ v = nI r ∧ m 13 r = 0 ∧ JX m1 (cc + 1) ∧ m1 7 0 = m 7 0 ∧ m1 15 0 = nI (r + 1) ∧ m1 0 = m 0 ∧ m1 1 = m 1 ∧ m1 8 = upd (m 8) r p ∧ m1 9 = upd (m 9) r p2 ∧ ((nb (mReq m r a p2) r a n = none ∧ m1 10 r = 5 ∧ m1 11 r = -1) ∨ ∃ b, nb (mReq m r a p2) r a n = some b ∧ m1 10 r = 0 ∧ m1 11 r = nI b)
theorem prq_ok {m : mS} {cc n r u a d : Nat} {t2 : Int32} (ht : ∃ t, t < 8 ∧ t2 = nI t) (hJ : JX m cc) (n1 : m 7 0 = nI n) (hn : n ≤ 20) (r1 : m 15 0 = nI r) (hr : r < 40) (hu : m 19 0 = nI u) (hu2 : u ≤ 3000) (ha : a < 6) (h12 : m 12 r = 0) (h13 : m 13 r = 0) : PRq m cc (nI a) t2 (nI r) (mEnd (mReq m r a t2) r a n u d) := by
  have hjj := JX_use hJ n1 hn r1 (by omega)
  rw [hu, i2n_q (by omega)] at hjj
  obtain ⟨b1, b2, b3, b4⟩ := hjj
  have er : rnw (mReq m r a t2) 0 u = rnw m 0 u := rnw_cg _ _ (fun _ _ => ⟨rfl, rfl⟩) rfl
  obtain ⟨⟨u', hu', e19, hj1⟩, -, hnb⟩ := J_end (m := mReq m r a t2) (r := r) (r' := r + 1) (c := cc + 1) (lo := 0) (u := u) (d := d) (i := r) (w := a) (f8 := m 8) (f9 := m 9) hn b1 b2 b3 (by
    rw [er]
    refine ⟨fun x hx => ?_, by have := b4.2; omega⟩
    show ∃ w, m 12 x = _ ∧ _
    by_cases ex : x = r
    · rw [ex, h12]
      have := b4.2
      exact ⟨0, rfl, by omega⟩
    · obtain ⟨w, e, hw⟩ := b4.1 x (by omega)
      exact ⟨w, e, by omega⟩) hu (by omega) (fun x h1 h2 => by omega) (fun x hx => upd_n _ _ hx) (fun x hx => upd_n _ _ hx) (fun h => absurd h (by omega))
  have e15 : mReq m r a t2 15 0 = nI (r + 1) := by
    show upd (m 15) 0 (nI (r + 1)) 0 = _
    exact upd_s _ _ _
  have e7 : mEnd (mReq m r a t2) r a n u d 7 = m 7 := by
    unfold mEnd
    cases nb (mReq m r a t2) r a n <;> rfl
  have ek : ∀ x, kc4 x → mEnd (mReq m r a t2) r a n u d x = mReq m r a t2 x := fun x hx => mEnd_k _ _ _ _ _ _ hx
  refine ⟨n, r, a, ht, n1, hn, r1, hr, ha, rfl, rfl, h13, ⟨n, r + 1, by rw [e7]; exact n1, by rw [mEnd_c _ _ _ _ _ _ (Or.inl rfl)]; exact e15, hn, by omega, ?_⟩, by rw [e7], by rw [mEnd_c _ _ _ _ _ _ (Or.inl rfl)]; exact e15, ek 0 (Or.inl rfl), ek 1 (Or.inr (Or.inl rfl)), ek 8 (Or.inr (Or.inr (Or.inl rfl))), ek 9 (Or.inr (Or.inr (Or.inr rfl))), hnb⟩
  rw [e19, i2n_q (by omega)]
  exact hj1
/-- all is settled -/
def PSt (m : mS) (cc : Nat) (v : Int32) (m1 : mS) : Prop := PQ m cc (fun v => ∃ w, w ≤ 15 ∧ v = nI w) v m1 ∧ (∀ j, j < 36 → m1 20 j = 0) ∧ ((∀ j, j < 36 → m 20 j = 0) → v = 0)
theorem cO_15 (w : Nat → Nat → Int32) : cO w 6 0 ≤ 15 := by
  have h0 := cI_le w 0 5 1
  have h1 := cI_le w 1 4 2
  have h2 := cI_le w 2 3 3
  have h3 := cI_le w 3 2 4
  have h4 := cI_le w 4 1 5
  have h5 := cI_le w 5 0 6
  show cI w 0 5 1 + (cI w 1 4 2 + (cI w 2 3 3 + (cI w 3 2 4 + (cI w 4 1 5 + (cI w 5 0 6 + 0))))) ≤ 15
  omega
theorem cR_0 (m : mS) : ∀ y x, (∀ j, x ≤ j → j < x + y → m 20 j = 0) → cR m y x = 0 := by
  intro y
  induction y with
  | zero => intro x _; rfl
  | succ y ih =>
    intro x h
    show tp (m 20 x) + cR m y (x + 1) = 0
    rw [h x (by omega) (by omega), ih (x + 1) (fun j h1 h2 => h j (by omega) (by omega))]
    rfl

theorem oj_harm {S0 c cc : Nat} {k : kS} {m : mS} (p : Int32) (h : Rel c k m) (hJ : JX m cc) : OpP m (Rel (c + 1)) "java/lang/IndexOutOfBoundsException" (wX6_harm m p) (wX5_harm S0 k p) (PQ m cc Vn) := by
  have h' := h
  obtain ⟨n, r, d, t, ca, ra, A, QC, ⟨⟨c1, c2, c3⟩, hr, hd, hC, hR, hA, hQ, hM⟩, hS, hL1, hL2, hL3, hL4⟩ := h'
  rcases q_rng p n (by omega) with ⟨i, hi, rfl⟩ | ⟨hp, -⟩
  · obtain ⟨a1, a2, a3⟩ := hC.1 i hi
    have hin : vp_in (nI i) 20 := q_in (by omega) (by decide)
    have h13 : k.1 13 (ca i) = m 3 i := a3.2.2.2.1
    have h16 : k.1 16 (ca i) = m 5 i := a3.2.2.2.2.2.1
    have hg5 : m 5 i = -1 ∨ ∃ h, h < 6 ∧ m 5 i = nI h := a3.2.2.2.2.2.2.2.2.2.2.1
    have hg3 : ∃ h, h < 6 ∧ m 3 i = nI h := a3.2.2.2.2.2.2.2.2.2.1
    rcases hg5 with hg5 | ⟨z, hz, hg5⟩
    · refine ⟨m 3 i, mset (mset m 23 0 0) 5 i (m 3 i), fun Q2 hq => ?_, Or.inl ⟨rfl, fun Q QX hq => ?_⟩, ok_pp rfl (pq_same hJ (fun a h5 _ _ h23 => (ms_c _ _ _ _ h5).trans (ms_c _ _ _ _ h23)) (by obtain ⟨y, hy, e⟩ := hg3; exact ⟨y, by omega, e⟩))⟩
      · refine sm_copy_y c1 c3 hi (b1 ⟨hin, ?_⟩)
        rw [q_cl (by omega), hg5]
        refine bi (by decide) (sm_holds0 (b0 ⟨hin, hin, ?_⟩))
        rintro m1 rfl
        exact ⟨hin, hq⟩
      · refine sx_copy_y (by omega) a1 (bS ?_)
        refine bi (by rw [h16, hg5]) (b0 ?_)
        rintro k1 rfl
        rw [show (kset k 16 (ca i) (k.1 13 (ca i))).1 16 (ca i) = m 3 i from (upd_s _ _ _).trans h13]
        refine hq _ ⟨n, r, d, t, ca, ra, A, QC, ⟨⟨c1, c2, c3⟩, hr, hd, ?_, hR, pA_mono (k := k) (m := m) hA (EB_step c t (x := 0) (by omega)), hQ, hM⟩, hS, hL1, by omega, hL3, Nat.le_trans hL4 (show c + Gr (m 10) r ≤ c + 1 + Gr (m 10) r by omega)⟩
        refine pC_step hC c3 hi rfl rfl (fun a _ _ q hq => ks_n _ _ _ _ hq) (fun a ha j hj => (ms_n _ _ _ _ hj).trans ?_) ?_
        · exact congrFun (ms_c m 23 0 0 (b := a) (by omega)) j
        · have e5 : mset (mset m 23 0 0) 5 i (m 3 i) 5 i = m 3 i := upd_s _ _ _
          have e16 : (kset k 16 (ca i) (k.1 13 (ca i))).1 16 (ca i) = k.1 13 (ca i) := upd_s _ _ _
          obtain ⟨w1, w2, w3, w4, w5, w6, w7, w8, w9, w10, w11, w12⟩ := a3
          exact ⟨w1, w2, w3, w4, w5, e16.trans (h13.trans e5.symm), w7, w8, w9, w10, Or.inr (by obtain ⟨z, z1, z2⟩ := hg3; exact ⟨z, z1, e5.trans z2⟩), w12⟩
    · refine ⟨-1, mset m 23 0 2, fun Q2 hq => ?_, Or.inr (Or.inr ⟨rfl, fun Q QX hq => ?_⟩), thr_pp (by decide)⟩
      · refine sm_copy_y c1 c3 hi (b1 ⟨hin, ?_⟩)
        rw [q_cl (by omega), hg5]
        exact bn (q_nn (by omega)) (sm_holds2 (b1 hq))
      · refine sx_copy_y (by omega) a1 (bS ?_)
        exact bn (by rw [h16, hg5]; exact q_m1 (by omega)) (b1 ⟨by decide, hq k (rel_thr h 2)⟩)
  · refine ⟨-1, mset m 23 0 1, fun Q2 hq => ?_, Or.inr (Or.inl ⟨rfl, fun Q QX hq => ?_⟩), thr_pp (by decide)⟩
    · exact sm_copy_n c1 c3 hp (b0 (sm_holds1 (b1 hq)))
    · exact sx_copy_n c3 hp (fun i h1 h2 => (hC.2 i h1 h2).1) (hq k (rel_thr h 1))

theorem oj_look {S0 c cc : Nat} {k : kS} {m : mS} (p : Int32) (hc : c < 512) (h : Rel c k m) (hJ : JX m cc) : OpP m (Rel (c + 1)) "java/lang/IndexOutOfBoundsException" (wX6_look m p) (wX5_look S0 k p) (PQ m cc Vl) := by
  have h' := h
  obtain ⟨n, r, d, t, ca, ra, A, QC, hCore, hS, hL1, hL2, hL3, hL4⟩ := h'
  have hCore' := hCore
  obtain ⟨⟨c1, c2, c3⟩, -, -, hC, hR, hA, -⟩ := hCore'
  rcases q_rng p n (by omega) with ⟨i, hi, rfl⟩ | ⟨hp, -⟩
  · obtain ⟨a1, a2, a3⟩ := hC.1 i hi
    have hin : vp_in (nI i) 20 := q_in (by omega) (by decide)
    have h2 : (k.1 14 (ca i) = 0 ∧ m 2 i = m 3 i) ∨ (k.1 14 (ca i) = 1 ∧ m 2 i = -1) := a3.2.2.2.2.2.2.2.1
    have hg3 : ∃ h, h < 6 ∧ m 3 i = nI h := a3.2.2.2.2.2.2.2.2.2.1
    rcases h2 with ⟨b14, b2⟩ | ⟨b14, b2⟩
    · have hEl := EB_lt (c := c) (t := t) (d := d) (by omega) hL2 hL3
      obtain ⟨v, k1, m1, ef, hF, hA1, f6, f5⟩ := find_both (S0 := S0) (m := mset m 23 0 0) (k := k) hC c3 hA (by omega) hi
      have hv : Vl v := by
        obtain ⟨v', m', ⟨e1, -⟩, e2⟩ := inv_find (f6 (fun v' m' => v' = v ∧ m' = m1) ⟨rfl, rfl⟩)
        rw [q_cl (by omega)] at e2
        rw [← e1]
        rcases e2 with e2 | ⟨e2, e3⟩
        · exact Or.inl e2
        · have hg5 : m 5 i = -1 ∨ ∃ h, h < 6 ∧ m 5 i = nI h := a3.2.2.2.2.2.2.2.2.2.2.1
          rcases hg5 with e | ⟨y, hy, e⟩
          · exact Or.inl (e2.trans e)
          · exact Or.inr ⟨y, hy, e2.trans e⟩
      refine ⟨v, m1, fun Q2 hq => ?_, Or.inl ⟨?_, fun Q QX hq => ?_⟩, ok_pp ?_ (pq_same hJ (fun a _ h6 h20 h23 => (hF.2.2.1 a h6 h20).trans (ms_c _ _ _ _ h23)) hv)⟩
      · refine sm_copy_y c1 c3 hi (b1 ⟨hin, ?_⟩)
        obtain ⟨z, hz, hg3⟩ := hg3
        rw [q_cl (by omega), b2, hg3]
        exact bi (q_ge0 (by omega)) (sm_holds0 (b0 (f6 _ hq)))
      · rw [hF.2.2.1 23 (by decide) (by decide)]; rfl
      · refine sx_copy_y (by omega) a1 (bS (bi b14 (f5 _ (hq k1 ?_))))
        have hS1 : Srt k1 A QC d A.length := by
          have e : arr k1 = arr k := by funext a; unfold arr; rw [hF.1 31 (by decide) (by decide)]
          unfold Srt
          rw [e]; exact hS
        refine ⟨n, r, d, t, ca, ra, A, QC, core_found (core_thr hCore (Nat.le_refl _) 0) hF hi (pA_mono hA1 (EB_step c t (by omega))), hS1, hL1, by omega, hL3, ?_⟩
        rw [hF.2.2.1 10 (by decide) (by decide)]
        exact Nat.le_trans hL4 (show c + Gr (m 10) r ≤ c + 1 + Gr (m 10) r by omega)
      · rw [hF.2.2.1 23 (by decide) (by decide)]; rfl
    · refine ⟨-1, mset m 23 0 2, fun Q2 hq => ?_, Or.inr (Or.inr ⟨rfl, fun Q QX hq => ?_⟩), thr_pp (by decide)⟩
      · refine sm_copy_y c1 c3 hi (b1 ⟨hin, ?_⟩)
        rw [q_cl (by omega), b2]
        exact bn (by decide) (sm_holds2 (b1 hq))
      · refine sx_copy_y (by omega) a1 (bS (bn (by rw [b14]; decide) ⟨by decide, hq k (rel_thr h 2)⟩))
  · refine ⟨-1, mset m 23 0 1, fun Q2 hq => ?_, Or.inr (Or.inl ⟨rfl, fun Q QX hq => ?_⟩), thr_pp (by decide)⟩
    · exact sm_copy_n c1 c3 hp (b0 (sm_holds1 (b1 hq)))
    · exact sx_copy_n c3 hp (fun i h1 h2 => (hC.2 i h1 h2).1) (hq k (rel_thr h 1))


theorem oj_mend {S0 c cc : Nat} {k : kS} {m : mS} (p : Int32) (hc : c < 512) (h : Rel c k m) (hJ : JX m cc) : OpP m (Rel (c + 1)) "java/lang/IndexOutOfBoundsException" (fun Q2 => wX6_mend m p (Q2 0)) (fun Q QX => wX5_mend S0 k p (Q 0) QX) (PQ m cc Vn) := by
  have h' := h
  obtain ⟨n, r, d, t, ca, ra, A, QC, hcore, hS, hL1, hL2, hL3, hL4⟩ := h'
  have hcore' := hcore
  obtain ⟨⟨n1, n2, n3⟩, ⟨c1, c2, c3⟩, ⟨d1, d2, d3⟩, hC, hR, hA, hQ, hM⟩ := hcore'
  rcases q_rng p n (by omega) with ⟨i, hi, rfl⟩ | ⟨hp, -⟩
  · obtain ⟨a1, a2, a3⟩ := hC.1 i hi
    have hin : vp_in (nI i) 20 := q_in (by omega) (by decide)
    have hah := at_home hC hi
    have h17 : k.1 17 (ca i) = m 6 i := a3.2.2.2.2.2.2.1
    obtain ⟨x2, hx2, e0⟩ : ∃ h, h < 6 ∧ m 0 i = nI h := a3.2.2.2.2.2.2.2.2.1
    have e11k : k.1 11 (ca i) = nI x2 := a3.2.1.trans e0
    by_cases hh : k.1 13 (ca i) = k.1 11 (ca i) ∧ k.1 14 (ca i) = 0
    · by_cases h6 : m 6 i = 0
      · refine ⟨0, mset m 23 0 2, fun Q2 hq => ?_, Or.inr (Or.inr ⟨rfl, fun Q QX hq => ?_⟩), thr_pp (by decide)⟩
        · refine sm_copy_y n1 n3 hi (b1 ⟨hin, hin, ?_⟩)
          rw [q_cl (by omega)]
          exact bi (hah.mp hh) ⟨hin, bi h6 (sm_holds2 (b1 hq))⟩
        · exact sx_copy_y (by omega) a1 (bS (at_home_y hh (b1 (bi (h17.trans h6) ⟨by decide, hq k (rel_thr h 2)⟩))))
      · have hpC1 : pC (kset (kset k 16 (ca i) (-1)) 17 (ca i) 0) (mset (mset (mset m 23 0 0) 5 i (-1)) 6 i 0) n ca := by
          refine pC_step hC n3 hi rfl rfl (fun a h1 h2 q hq => (ks_n _ _ _ _ hq).trans (ks_n _ _ _ _ hq)) (fun a ha y hy => (ms_n _ _ _ _ hy).trans ((ms_n _ _ _ _ hy).trans (congrFun (ms_c _ _ _ _ (show a ≠ 23 by omega)) y))) ?_
          have f16 : (kset (kset k 16 (ca i) (-1)) 17 (ca i) 0).1 16 (ca i) = -1 := by
            show upd (k.1 16) (ca i) (-1) (ca i) = _
            exact upd_s _ _ _
          have f17 : (kset (kset k 16 (ca i) (-1)) 17 (ca i) 0).1 17 (ca i) = 0 := upd_s _ _ _
          have f5 : mset (mset (mset m 23 0 0) 5 i (-1)) 6 i 0 5 i = -1 := by
            show upd (m 5) i (-1) i = _
            exact upd_s _ _ _
          have f6 : mset (mset (mset m 23 0 0) 5 i (-1)) 6 i 0 6 i = 0 := upd_s _ _ _
          obtain ⟨w1, w2, w3, w4, w5, w6, w7, w8, w9, w10, w11, w12⟩ := a3
          exact ⟨w1, w2, w3, w4, w5, f16.trans f5.symm, f17.trans f6.symm, w8, w9, w10, Or.inl f5, Or.inl f6⟩
        have hcore1 : Core (kset (kset k 16 (ca i) (-1)) 17 (ca i) 0) (mset (mset (mset m 23 0 0) 5 i (-1)) 6 i 0) n r d ca ra A QC (UB t) (EB (c + 1) t) :=
          ⟨⟨n1, n2, n3⟩, ⟨c1, c2, c3⟩, ⟨d1, d2, d3⟩, hpC1, hR, pA_mono (k := k) (m := m) hA (EB_step c t (x := 0) (by omega)), hQ, hM⟩
        obtain ⟨s6, s5⟩ := rel_send (S0 := S0) (c1 := ca i) (kind := 0) (x := 1) (y := nI i) (w := x2 + 1) (a4 := none) hcore1 hS hL1 hL2 hL3 hL4 hc (by omega) (Or.inl ⟨rfl, i, hi, rfl, rfl, Or.inl ⟨rfl, rfl⟩⟩) (fun q' e => (nomatch e)) (fun _ _ _ e => (nomatch e))
        refine ⟨0, mSend (mset (mset (mset m 23 0 0) 5 i (-1)) 6 i 0) A.length 1 (nI i) (nI (d + (x2 + 1))), fun Q2 hq => ?_, Or.inl ⟨rfl, fun Q QX hq => ?_⟩, ok_pp rfl (pq_send hJ hM.1 hM.2.1 (fun a h5 h6 _ _ h23 => (ms_c _ _ _ _ h6).trans ((ms_c _ _ _ _ h5).trans (ms_c _ _ _ _ h23))) ⟨0, by omega, rfl⟩)⟩
        · refine sm_copy_y n1 n3 hi (b1 ⟨hin, hin, ?_⟩)
          rw [q_cl (by omega)]
          refine bi (hah.mp hh) ⟨hin, bn h6 (sm_holds0 (b0 ⟨hin, ?_⟩))⟩
          rintro m1 rfl
          refine ⟨hin, ?_⟩
          rintro m2 rfl
          exact sm_tell (by omega) e0 (s6 (fun _ m1 => Q2 0 m1) hq)
        · refine sx_copy_y (by omega) a1 (bS (at_home_y hh (b1 (bn (by rw [h17]; exact h6) ?_))))
          rintro k1 rfl k2 rfl
          exact sx_news (a := x2) e11k (s5 (fun _ k1 => Q 0 k1) hq)
    · refine ⟨0, mset m 23 0 2, fun Q2 hq => ?_, Or.inr (Or.inr ⟨rfl, fun Q QX hq => ?_⟩), thr_pp (by decide)⟩
      · refine sm_copy_y n1 n3 hi (b1 ⟨hin, hin, ?_⟩)
        rw [q_cl (by omega)]
        exact bn (fun e => hh (hah.mpr e)) (sm_holds2 (b1 hq))
      · exact sx_copy_y (by omega) a1 (bS (at_home_n hh (b0 ⟨by decide, hq k (rel_thr h 2)⟩)))
  · refine ⟨0, mset m 23 0 1, fun Q2 hq => ?_, Or.inr (Or.inl ⟨rfl, fun Q QX hq => ?_⟩), thr_pp (by decide)⟩
    · exact sm_copy_n n1 n3 hp (b0 (sm_holds1 (b1 hq)))
    · exact sx_copy_n n3 hp (fun i h1 h2 => (hC.2 i h1 h2).1) (hq k (rel_thr h 1))


theorem oj_renew {S0 c cc : Nat} {k : kS} {m : mS} (p : Int32) (hc : c < 512) (h : Rel c k m) (hJ : JX m cc) : OpP m (Rel (c + 1)) "java/lang/IndexOutOfBoundsException" (wX6_renew m p) (wX5_renew S0 k p) (PQ m cc Vn) := by
  have h' := h
  obtain ⟨n, r, d, t, ca, ra, A, QC, hcore, hS, hL1, hL2, hL3, hL4⟩ := h'
  have hcore' := hcore
  obtain ⟨⟨n1, n2, n3⟩, ⟨c1, c2, c3⟩, ⟨d1, d2, d3⟩, hC, hR, hA, hQ, hM⟩ := hcore'
  rcases q_rng p r (by omega) with ⟨i, hi, rfl⟩ | ⟨hp, -⟩
  · obtain ⟨a1, a2, a3⟩ := hR.1 i hi
    have h23 : k.1 23 (ra i) = m 10 i := a3.2.2.1
    by_cases h2 : m 10 i = 2
    · obtain ⟨j, hj, e11, ep⟩ := row_cp a3 (by show m 10 i ≠ 5; rw [h2]; decide)
      replace e11 : m 11 i = nI j := e11
      obtain ⟨x1, hx1, e8⟩ : ∃ h, h < 6 ∧ m 8 i = nI h := a3.2.2.2.2.2.2.1
      obtain ⟨b1', b2', b3'⟩ := hC.1 j hj
      obtain ⟨x2, hx2, e0⟩ : ∃ h, h < 6 ∧ m 0 j = nI h := b3'.2.2.2.2.2.2.2.2.1
      have e20 : k.1 20 (ra i) = nI x1 := a3.1.trans e8
      have e11k : k.1 11 (ca j) = nI x2 := b3'.2.1.trans e0
      obtain ⟨s6, s5⟩ := rel_send (S0 := S0) (c1 := ca j) (kind := 5) (x := 3) (y := nI i) (a4 := some (ra i)) (core_thr hcore (EB_step c t (x := 0) (by omega)) 0) hS hL1 hL2 hL3 hL4 hc (wayN_le hx1 hx2) (Or.inr ⟨i, hi, rfl, rfl, Or.inr (Or.inl ⟨rfl, rfl⟩)⟩) (fun q' e => by cases e; exact Or.inr (Or.inr (Or.inr ⟨Or.inl rfl, Or.inl (h23.trans h2)⟩))) (fun _ _ _ _ _ => Or.inl rfl)
      have hwl := wayN_le hx1 hx2
      refine ⟨nI (d + wayN x1 x2), mSend (mset m 23 0 0) A.length 3 (nI i) (nI (d + wayN x1 x2)), fun Q2 hq => sm_ref_y c1 c3 hi h2 (sm_holds0 (b0 (sm_len (by omega) (by omega) e11 hx1 hx2 e8 e0 (s6 Q2 hq)))), Or.inl ⟨rfl, fun Q QX hq => sx_req_y (by omega) a1 (bS ?_)⟩, ok_pp rfl (pq_send hJ hM.1 hM.2.1 (fun a _ _ _ _ h23 => ms_c _ _ _ _ h23) ⟨_, by omega, rfl⟩)⟩
      · rw [ep]
        refine bS (bi (h23.trans h2) ?_)
        rw [e20, e11k]
        exact sx_way hx1 hx2 (s5 Q hq)
    · refine ⟨-1, mset m 23 0 2, fun Q2 hq => ?_, Or.inr (Or.inr ⟨rfl, fun Q QX hq => ?_⟩), thr_pp (by decide)⟩
      · exact sm_ref_2 c1 c3 hi h2 (sm_holds2 (b1 hq))
      · exact sx_req_y (by omega) a1 (bS (sx_req_no (S0 := S0) (h23.symm ▸ h2) ⟨by decide, hq k (rel_thr h 2)⟩))
  · refine ⟨-1, mset m 23 0 1, fun Q2 hq => ?_, Or.inr (Or.inl ⟨rfl, fun Q QX hq => ?_⟩), thr_pp (by decide)⟩
    · exact sm_ref_n c1 c3 hp (sm_holds1 (b1 hq))
    · exact sx_req_n c3 hp (fun i h1 h2 => (hR.2.1 i h1 h2).1) (hq k (rel_thr h 1))

theorem oj_recall {S0 c cc : Nat} {k : kS} {m : mS} (p : Int32) (hc : c < 512) (h : Rel c k m) (hJ : JX m cc) : OpP m (Rel (c + 1)) "java/lang/IndexOutOfBoundsException" (wX6_recall m p) (wX5_recall S0 k p) (PQ m cc Vn) := by
  have h' := h
  obtain ⟨n, r, d, t, ca, ra, A, QC, hcore, hS, hL1, hL2, hL3, hL4⟩ := h'
  have hcore' := hcore
  obtain ⟨⟨n1, n2, n3⟩, ⟨c1, c2, c3⟩, ⟨d1, d2, d3⟩, hC, hR, hA, hQ, hM⟩ := hcore'
  rcases q_rng p r (by omega) with ⟨i, hi, rfl⟩ | ⟨hp, -⟩
  · obtain ⟨a1, a2, a3⟩ := hR.1 i hi
    have h23 : k.1 23 (ra i) = m 10 i := a3.2.2.1
    have h25 : k.1 25 (ra i) = m 14 i := a3.2.2.2.2.1
    have hin : vp_in (nI i) 40 := q_in (by omega) (by decide)
    by_cases h2 : m 10 i = 2
    · obtain ⟨j, hj, e11, ep⟩ := row_cp a3 (by show m 10 i ≠ 5; rw [h2]; decide)
      replace e11 : m 11 i = nI j := e11
      obtain ⟨x1, hx1, e8⟩ : ∃ h, h < 6 ∧ m 8 i = nI h := a3.2.2.2.2.2.2.1
      obtain ⟨b1', b2', b3'⟩ := hC.1 j hj
      obtain ⟨x2, hx2, e0⟩ : ∃ h, h < 6 ∧ m 0 j = nI h := b3'.2.2.2.2.2.2.2.2.1
      have e20 : k.1 20 (ra i) = nI x1 := a3.1.trans e8
      have e11k : k.1 11 (ca j) = nI x2 := b3'.2.1.trans e0
      rcases (show m 14 i = 0 ∨ m 14 i = 1 from a3.2.2.2.2.2.2.2.1) with h14 | h14
      · have hRow : pR (kset k 25 (ra i) 1) (mset (mset m 23 0 0) 14 i 1) n r ca ra (UB t) := by
          refine pR_step hR (Nat.le_refl _) hi rfl rfl (fun _ _ => rfl) (fun a _ _ q hq => ks_n _ _ _ _ hq) (fun a ha1 ha2 j hj => (ms_n _ _ _ _ hj).trans (congrFun (ms_c m 23 0 0 (b := a) (by omega)) j)) ?_
          have e5 : mset (mset m 23 0 0) 14 i 1 14 i = 1 := upd_s _ _ _
          have e25 : (kset k 25 (ra i) 1).1 25 (ra i) = 1 := upd_s _ _ _
          obtain ⟨w1, w2, w3, w4, w5, w6, w7, w8, w9, w10, w11⟩ := a3
          exact ⟨w1, w2, w3, w4, e25.trans e5.symm, w6, w7, Or.inr e5, w9, w10, w11⟩
        have hcore1 : Core (kset k 25 (ra i) 1) (mset (mset m 23 0 0) 14 i 1) n r d ca ra A QC (UB t) (EB (c + 1) t) :=
          ⟨⟨n1, n2, n3⟩, ⟨c1, c2, c3⟩, ⟨d1, d2, d3⟩, hC, hRow, pA_mono (k := k) (m := m) hA (EB_step c t (x := 0) (by omega)), hQ, hM⟩
        obtain ⟨s6, s5⟩ := rel_send (S0 := S0) (c1 := ca j) (kind := 6) (x := 4) (y := nI i) (a4 := some (ra i)) hcore1 hS hL1 hL2 hL3 hL4 hc (wayN_le hx1 hx2) (Or.inr ⟨i, hi, rfl, rfl, Or.inr (Or.inr (Or.inl ⟨rfl, rfl⟩))⟩) (fun q' e => by cases e; exact Or.inr (Or.inr (Or.inr ⟨Or.inr rfl, Or.inl (h23.trans h2)⟩))) (fun _ _ _ _ _ => Or.inr (Or.inl rfl))
        refine ⟨nI (d + wayN x1 x2), mSend (mset (mset m 23 0 0) 14 i 1) A.length 4 (nI i) (nI (d + wayN x1 x2)), fun Q2 hq => ?_, Or.inl ⟨rfl, fun Q QX hq => sx_req_y (by omega) a1 (bS ?_)⟩, ok_pp rfl (pq_send hJ hM.1 hM.2.1 (fun a _ _ h14 _ h23 => (ms_c _ _ _ _ h14).trans (ms_c _ _ _ _ h23)) ⟨_, by have := wayN_le hx1 hx2; omega, rfl⟩)⟩
        · unfold wX6_recall
          refine sm_ref_y c1 c3 hi h2 (bi (by decide) ⟨hin, ?_⟩)
          rw [q_cl (by omega)]
          refine bn (by rw [h14]; decide) (sm_holds0 (b0 ⟨hin, ?_⟩))
          rintro m1 rfl
          exact sm_len (by omega) (by omega) e11 hx1 hx2 e8 e0 (s6 Q2 hq)
        · rw [ep]
          refine bS (bi (h23.trans h2) (bi (h25.trans h14) ?_))
          rintro k1 rfl
          rw [show (kset k 25 (ra i) 1).1 20 (ra i) = nI x1 from e20, show (kset k 25 (ra i) 1).1 11 (ca j) = nI x2 from e11k]
          exact sx_way hx1 hx2 (s5 Q hq)
      · refine ⟨-1, mset m 23 0 2, fun Q2 hq => ?_, Or.inr (Or.inr ⟨rfl, fun Q QX hq => ?_⟩), thr_pp (by decide)⟩
        · unfold wX6_recall
          refine sm_ref_y c1 c3 hi h2 (bi (by decide) ⟨hin, ?_⟩)
          rw [q_cl (by omega)]
          exact bi h14 (sm_holds2 (b1 hq))
        · refine sx_req_y (by omega) a1 (bS ?_)
          rw [ep]
          exact bS (bi (h23.trans h2) (bn (by rw [h25, h14]; decide) ⟨by decide, hq k (rel_thr h 2)⟩))
    · refine ⟨-1, mset m 23 0 2, fun Q2 hq => ?_, Or.inr (Or.inr ⟨rfl, fun Q QX hq => ?_⟩), thr_pp (by decide)⟩
      · unfold wX6_recall
        exact sm_ref_2 c1 c3 hi h2 (bn (by decide) (sm_ref_2 c1 c3 hi h2 (sm_holds2 (b1 hq))))
      · refine sx_req_y (by omega) a1 (bS ⟨fun _ => ⟨fun _ => ⟨by decide, hq k (rel_thr h 2)⟩, fun _ => ⟨by decide, hq k (rel_thr h 2)⟩⟩, fun o7 _ => bn (h23.symm ▸ h2) ⟨by decide, hq k (rel_thr h 2)⟩⟩)
  · refine ⟨-1, mset m 23 0 1, fun Q2 hq => ?_, Or.inr (Or.inl ⟨rfl, fun Q QX hq => ?_⟩), thr_pp (by decide)⟩
    · unfold wX6_recall
      exact sm_ref_n c1 c3 hp (bn (by decide) (sm_ref_n c1 c3 hp (sm_holds1 (b1 hq))))
    · exact sx_req_n c3 hp (fun i h1 h2 => (hR.2.1 i h1 h2).1) (hq k (rel_thr h 1))


theorem oj_sendBack {S0 c cc : Nat} {k : kS} {m : mS} (p : Int32) (hc : c < 512) (h : Rel c k m) (hJ : JX m cc) : OpP m (Rel (c + 1)) "java/lang/IndexOutOfBoundsException" (wX6_sendBack m p) (wX5_sendBack S0 k p) (PQ m cc Vn) := by
  have h' := h
  obtain ⟨n, r, d, t, ca, ra, A, QC, hcore, hS, hL1, hL2, hL3, hL4⟩ := h'
  have hcore' := hcore
  obtain ⟨⟨n1, n2, n3⟩, ⟨c1, c2, c3⟩, ⟨d1, d2, d3⟩, hC, hR, hA, hQ, hM⟩ := hcore'
  rcases q_rng p r (by omega) with ⟨i, hi, rfl⟩ | ⟨hp, -⟩
  · obtain ⟨a1, a2, a3⟩ := hR.1 i hi
    have h23 : k.1 23 (ra i) = m 10 i := a3.2.2.1
    have h24 : k.1 24 (ra i) = m 12 i := a3.2.2.2.1
    have hin : vp_in (nI i) 40 := q_in (by omega) (by decide)
    by_cases h2 : m 10 i = 2
    · obtain ⟨j, hj, e11, ep⟩ := row_cp a3 (by show m 10 i ≠ 5; rw [h2]; decide)
      replace e11 : m 11 i = nI j := e11
      obtain ⟨x1, hx1, e8⟩ : ∃ h, h < 6 ∧ m 8 i = nI h := a3.2.2.2.2.2.2.1
      obtain ⟨u, hu, e12⟩ : ∃ u, u ≤ UB t ∧ m 12 i = nI u := a3.2.2.2.2.2.2.2.2.2.1
      obtain ⟨b1', b2', b3'⟩ := hC.1 j hj
      obtain ⟨x2, hx2, e0⟩ : ∃ h, h < 6 ∧ m 0 j = nI h := b3'.2.2.2.2.2.2.2.2.1
      have e20 : k.1 20 (ra i) = nI x1 := a3.1.trans e8
      have e11k : k.1 11 (ca j) = nI x2 := b3'.2.1.trans e0
      have hU := UB_lt (c := c) (by omega) hL2 hL3
      have hEl := EB_lt (c := c) (t := t) (d := d) (by omega) hL2 hL3
      have hjn : vp_in (nI j) 20 := q_in (by omega) (by decide)
      have hst : (nI (d - u)).toInt = ((d - u : Nat) : Int) := q_ti (by omega)
      have hA1 : pA (chg k x1 x2 (nI (d - u))) (owed (mset m 23 0 0) x1 x2 (nI (d - u))) n (EB c t + 100000) := pA_charge (k := k) (m := mset m 23 0 0) hA hx1 hx2 (by rw [hst]; omega) (by rw [hst]; omega) (by omega)
      have hpC1 : pC (kset (kset (chg k x1 x2 (nI (d - u))) 23 (ra i) 3) 14 (ca j) 1) (mset (mset (owed (mset m 23 0 0) x1 x2 (nI (d - u))) 10 i 3) 2 j (-1)) n ca := by
        refine pC_step hC n3 hj rfl rfl (fun a h1 h2 q hq => (ks_n _ _ _ _ hq).trans (congrFun ((ks_c _ _ _ _ (show a ≠ 23 by omega)).trans (chg_c _ _ _ _ (by omega))) q)) (fun a ha y hy => (ms_n _ _ _ _ hy).trans (congrFun ((ms_c _ _ _ _ (show a ≠ 10 by omega)).trans ((owed_c _ _ _ _ (by omega)).trans (ms_c _ _ _ _ (show a ≠ 23 by omega)))) y)) ?_
        have e2 : mset (mset (owed (mset m 23 0 0) x1 x2 (nI (d - u))) 10 i 3) 2 j (-1) 2 j = -1 := upd_s _ _ _
        have e14 : (kset (kset (chg k x1 x2 (nI (d - u))) 23 (ra i) 3) 14 (ca j) 1).1 14 (ca j) = 1 := upd_s _ _ _
        obtain ⟨w1, w2, w3, w4, w5, w6, w7, w8, w9, w10, w11, w12⟩ := b3'
        exact ⟨w1, w2, w3, w4, w5, w6, w7, Or.inr ⟨e14, e2⟩, w9, w10, w11, w12⟩
      have hpR1 : pR (kset (kset (chg k x1 x2 (nI (d - u))) 23 (ra i) 3) 14 (ca j) 1) (mset (mset (owed (mset m 23 0 0) x1 x2 (nI (d - u))) 10 i 3) 2 j (-1)) n r ca ra (UB t) := by
        refine pR_step hR (Nat.le_refl _) hi rfl rfl (fun _ _ => rfl) (fun a h1 h2 q hq => (congrFun (ks_c _ _ _ _ (show a ≠ 14 by omega)) q).trans ((ks_n _ _ _ _ hq).trans (congrFun (chg_c _ _ _ _ (by omega)) q))) (fun a h1 h2 y hy => (congrFun (ms_c _ _ _ _ (show a ≠ 2 by omega)) y).trans ((ms_n _ _ _ _ hy).trans (congrFun ((owed_c _ _ _ _ (by omega)).trans (ms_c _ _ _ _ (show a ≠ 23 by omega))) y))) ?_
        have e10 : mset (mset (owed (mset m 23 0 0) x1 x2 (nI (d - u))) 10 i 3) 2 j (-1) 10 i = 3 := by
          show upd (m 10) i 3 i = 3
          exact upd_s _ _ _
        have e23 : (kset (kset (chg k x1 x2 (nI (d - u))) 23 (ra i) 3) 14 (ca j) 1).1 23 (ra i) = 3 := by
          show upd (k.1 23) (ra i) 3 (ra i) = 3
          exact upd_s _ _ _
        obtain ⟨w1, w2, w3, w4, w5, w6, w7, w8, w9, w10, w11⟩ := a3
        exact ⟨w1, w2, e23.trans e10.symm, w4, w5, w6, w7, w8, w9, w10, Or.inr ⟨j, hj, e11, ep, 3, by decide, e10⟩⟩
      have hlv : ∀ a, a ∈ QC → lRow (kset (kset (chg k x1 x2 (nI (d - u))) 23 (ra i) 3) 14 (ca j) 1) a := by
        intro a ha q hq
        have ho := (hM.2.2.2.1 a ha).2
        by_cases e : q = ra i
        · have h56 := live_2 (b := a) ho (show k.2.1 33 a = some (ra i) from e ▸ hq) (h23.trans h2)
          refine Or.inr (Or.inr (Or.inr ⟨h56, Or.inr (Or.inl ?_)⟩))
          rw [e]
          show upd (k.1 23) (ra i) 3 (ra i) = 3
          exact upd_s _ _ _
        · have hk23 : (kset (kset (chg k x1 x2 (nI (d - u))) 23 (ra i) 3) 14 (ca j) 1).1 23 q = k.1 23 q := by
            show upd (k.1 23) (ra i) 3 q = _
            exact upd_n _ _ e
          rw [hk23]
          exact ho q hq
      have hcore1 : Core (kset (kset (chg k x1 x2 (nI (d - u))) 23 (ra i) 3) 14 (ca j) 1) (mset (mset (owed (mset m 23 0 0) x1 x2 (nI (d - u))) 10 i 3) 2 j (-1)) n r d ca ra A QC (UB t) (EB (c + 1) t) := by
        refine ⟨⟨n1, n2, n3⟩, ⟨c1, c2, c3⟩, ⟨d1, d2, d3⟩, hpC1, hpR1, ?_, hQ, ?_⟩
        · exact pA_mono (k := chg k x1 x2 (nI (d - u))) (m := owed (mset m 23 0 0) x1 x2 (nI (d - u))) hA1 (EB_step c t (Nat.le_refl _))
        · exact pM_live (k' := kset (kset (chg k x1 x2 (nI (d - u))) 23 (ra i) 3) 14 (ca j) 1) hM rfl rfl rfl rfl rfl (fun a h1 h2 => (ms_c _ _ _ _ (show a ≠ 2 by omega)).trans ((ms_c _ _ _ _ (show a ≠ 10 by omega)).trans ((owed_c _ _ _ _ (by omega)).trans (ms_c _ _ _ _ (show a ≠ 23 by omega))))) (List.Sublist.refl _) hlv
      have hgr : Gr (mset (mset (owed (mset m 23 0 0) x1 x2 (nI (d - u))) 10 i 3) 2 j (-1) 10) r = Gr (m 10) r := by
        show Gr (upd (m 10) i 3) r = _
        have := Gr_set (m 10) i 3 r hi
        rw [h2, show g1 2 = 1 by decide, show g1 3 = 1 by decide] at this
        omega
      obtain ⟨s6, s5⟩ := rel_send (S0 := S0) (c1 := ca j) (kind := 4) (x := 5) (y := nI i) (a4 := some (ra i)) hcore1 hS hL1 hL2 hL3 (by rw [hgr]; exact hL4) hc (wayN_le hx1 hx2) (Or.inr ⟨i, hi, rfl, rfl, Or.inr (Or.inr (Or.inr (Or.inr ⟨rfl, rfl⟩)))⟩) (fun q' e => by
          cases e
          refine Or.inr (Or.inr (Or.inl ⟨rfl, ?_, ep.symm⟩))
          show upd (k.1 23) (ra i) 3 (ra i) = 3
          exact upd_s _ _ _) (fun b hb q' e1 e2 => by
          cases e1
          rcases live_2 (b := b) (hM.2.2.2.1 b hb).2 e2 (h23.trans h2) with e | e
          · exact Or.inr (Or.inr (Or.inl e))
          · exact Or.inr (Or.inr (Or.inr e)))
      refine ⟨nI (d - u), mSend (mset (mset (owed (mset m 23 0 0) x1 x2 (nI (d - u))) 10 i 3) 2 j (-1)) A.length 5 (nI i) (nI (d + wayN x1 x2)), fun Q2 hq => ?_, Or.inl ⟨rfl, fun Q QX hq => sx_req_y (by omega) a1 (bS ?_)⟩, ok_pp rfl (pq_back hJ n1 n3 c1 c3 hM.1 hM.2.1 hi hj h2 e11 ⟨_, by omega, rfl⟩)⟩
      · refine sm_ref_y c1 c3 hi h2 (sm_holds0 (b0 ⟨hin, ?_⟩))
        rw [q_cl (by omega)]
        rw [show mset m 23 0 0 22 0 = nI d from d1, show mset m 23 0 0 12 i = nI u from e12, show mset m 23 0 0 11 i = nI j from e11, q_cl (show j < 1000000 by omega), show mset m 23 0 0 8 i = nI x1 from e8, show mset m 23 0 0 0 j = nI x2 from e0]
        refine ⟨fun e => ⟨hin, hin, hjn, ?_⟩, fun e => ⟨hin, hin, hin, hjn, ?_⟩⟩
        · rw [q_le (by omega) (by omega)] at e
          rw [show d - u = 0 by omega] at s6 hq
          refine sm_owe hx1 hx2 ⟨hin, ?_⟩
          rintro m14 rfl
          refine ⟨hjn, ?_⟩
          rintro m16 rfl
          exact sm_len (by omega) (by omega) e11 hx1 hx2 e8 e0 (s6 _ hq)
        · rw [late_j (by omega) (by omega) e]
          refine sm_owe hx1 hx2 ⟨hin, ?_⟩
          rintro m14 rfl
          refine ⟨hjn, ?_⟩
          rintro m16 rfl
          exact sm_len (by omega) (by omega) e11 hx1 hx2 e8 e0 (s6 _ hq)
      · rw [ep]
        refine bS (bi (h23.trans h2) ?_)
        rw [e20, e11k, d2, h24, e12, late_i (by omega) (by omega), Int32.mul_one]
        refine sx_charge hx1 hx2 ?_
        rintro k14 rfl k15 rfl
        rw [show (kset (kset (chg k x1 x2 (nI (d - u))) 23 (ra i) 3) 14 (ca j) 1).1 20 (ra i) = nI x1 from e20, show (kset (kset (chg k x1 x2 (nI (d - u))) 23 (ra i) 3) 14 (ca j) 1).1 11 (ca j) = nI x2 from e11k]
        exact sx_way hx1 hx2 (s5 _ hq)
    · refine ⟨-1, mset m 23 0 2, fun Q2 hq => ?_, Or.inr (Or.inr ⟨rfl, fun Q QX hq => ?_⟩), thr_pp (by decide)⟩
      · exact sm_ref_2 c1 c3 hi h2 (sm_holds2 (b1 hq))
      · refine sx_req_y (by omega) a1 (bS ⟨fun _ => ⟨fun _ => ⟨by decide, hq k (rel_thr h 2)⟩, fun _ => ⟨by decide, hq k (rel_thr h 2)⟩⟩, fun o7 _ => bn (h23.symm ▸ h2) ⟨by decide, hq k (rel_thr h 2)⟩⟩)
  · refine ⟨-1, mset m 23 0 1, fun Q2 hq => ?_, Or.inr (Or.inl ⟨rfl, fun Q QX hq => ?_⟩), thr_pp (by decide)⟩
    · exact sm_ref_n c1 c3 hp (sm_holds1 (b1 hq))
    · exact sx_req_n c3 hp (fun i h1 h2 => (hR.2.1 i h1 h2).1) (hq k (rel_thr h 1))

theorem oj_addCopy {S0 c cc : Nat} {k : kS} {m : mS} (p p2 : Int32) (hc : c < 512) (h : Rel c k m) (hJ : JX m cc) : OpP m (Rel (c + 1)) "java/lang/IllegalArgumentException" (wX6_addCopy m p p2) (wX5_addCopy S0 k p p2) (PAd m cc p p2) := by
  have h' := h
  obtain ⟨n, r, d, t, ca, ra, A, QC, hcore, hS, hL1, hL2, hL3, hL4⟩ := h'
  have hcore' := hcore
  obtain ⟨⟨n1, n2, n3⟩, ⟨c1, c2, c3⟩, ⟨d1, d2, d3⟩, hC, hR, hA, hQ, hM⟩ := hcore'
  have hg := Gr_le (m 10) r
  rcases q_rng p 6 (by decide) with ⟨a, ha, rfl⟩ | ⟨hp, -⟩
  · rcases q_rng p2 8 (by decide) with ⟨t2, ht2, rfl⟩ | ⟨hp, -⟩
    · by_cases hn : n = 20
      · refine ⟨-1, mset m 23 0 2, fun Q2 hq => ?_, Or.inr (Or.inr ⟨rfl, fun Q QX hq => ?_⟩), thr_pp (by decide)⟩
        · exact sm_house_y ha (b1 (sm_title_y ht2 (b1 (bi (by rw [n1, hn]; rfl) (sm_holds2 (b1 hq))))))
        · refine sx_house_y ha (b1 (sx_title_y ht2 (b1 ?_)))
          rw [n2]
          exact bn (q_nn (by omega)) (bn (by rw [show (20 : Int32) = nI 20 from rfl, q_lt (by omega) (by omega)]; omega) ⟨by decide, hq k (rel_thr h 2)⟩)
      · have hn20 : n < 20 := by omega
        have hin : vp_in (nI n) 20 := q_in hn20 (by decide)
        have e70 : ∀ v : Int32, (mSend (mAdd m n a (nI t2)) A.length 1 (nI n) v) 7 0 = nI n := fun v => n1
        refine ⟨nI n, mSend (mset (mAdd m n a (nI t2)) 7 0 (nI (n + 1))) A.length 1 (nI n) (nI (d + (a + 1))), fun Q2 hq => ?_, Or.inl ⟨rfl, fun Q QX hq => ?_⟩, ok_pp rfl (pad_ok ha ⟨t2, ht2, rfl⟩ hJ n1 hn20 c1 c3 hM.1 hM.2.1 (hC.2 n (Nat.le_refl _) hn20).2)⟩
        · refine sm_house_y ha (b1 (sm_title_y ht2 (b1 (bn (by rw [n1]; intro e; exact hn (q_inj (by omega) (by decide) e)) (sm_holds0 (b0 ?_))))))
          have e7 : mset m 23 0 0 7 0 = nI n := n1
          rw [e7]
          refine ⟨hin, ?_⟩
          rw [q_cl (by omega)]
          rintro m1 rfl
          rw [show mset (mset m 23 0 0) 0 n (nI a) 7 0 = nI n from n1]
          refine ⟨hin, ?_⟩
          rw [q_cl (by omega)]
          rintro m1 rfl
          rw [show mset (mset (mset m 23 0 0) 0 n (nI a)) 1 n (nI t2) 7 0 = nI n from n1]
          refine ⟨hin, ?_⟩
          rw [q_cl (by omega)]
          rintro m1 rfl
          rw [show mset (mset (mset (mset m 23 0 0) 0 n (nI a)) 1 n (nI t2)) 2 n (nI a) 7 0 = nI n from n1]
          refine ⟨hin, ?_⟩
          rw [q_cl (by omega)]
          rintro m1 rfl
          rw [show mset (mset (mset (mset (mset m 23 0 0) 0 n (nI a)) 1 n (nI t2)) 2 n (nI a)) 3 n (nI a) 7 0 = nI n from n1]
          refine ⟨hin, ?_⟩
          rw [q_cl (by omega)]
          rintro m1 rfl
          rw [show mset (mset (mset (mset (mset (mset m 23 0 0) 0 n (nI a)) 1 n (nI t2)) 2 n (nI a)) 3 n (nI a)) 4 n (-1) 7 0 = nI n from n1]
          refine ⟨hin, ?_⟩
          rw [q_cl (by omega)]
          rintro m1 rfl
          rw [show mset (mset (mset (mset (mset (mset (mset m 23 0 0) 0 n (nI a)) 1 n (nI t2)) 2 n (nI a)) 3 n (nI a)) 4 n (-1)) 5 n (-1) 7 0 = nI n from n1]
          refine sm_tell (m := mAdd m n a (nI t2)) (by omega) (a := a) (by show upd (m 0) n (nI a) n = _; exact upd_s _ _ _) ?_
          refine sm_send (u := A.length) (d := d) hM.1 (by have := hM.2.1; omega) d1 ?_
          rintro m2 rfl
          rw [e70, nI_1, msend_comm]
          rw [show mSend (mset (mAdd m n a (nI t2)) 7 0 (nI (n + 1))) A.length 1 (nI n) (nI (d + (a + 1))) 7 0 = nI (n + 1) by show upd (m 7) 0 (nI (n + 1)) 0 = _; exact upd_s _ _ _, nI_pred]
          exact hq
        · refine sx_house_y ha (b1 (sx_title_y ht2 (b1 ?_)))
          rw [n2]
          refine bn (q_nn (by omega)) (bi (by rw [show (20 : Int32) = nI 20 from rfl, q_lt (by omega) (by omega)]; omega) ⟨by decide, fun q hq0 _ => ?_⟩)
          rintro k13 rfl k1 rfl k2 rfl k3 rfl k4 rfl k5 rfl k6 rfl k7 rfl k8 rfl
          refine ⟨hin, ?_⟩
          rw [q_cl (by omega), nI_1]
          rintro k18 rfl k19 rfl
          refine sx_house_y ha (b1 ⟨q_in ha (by decide), q_in ha (by decide), ?_⟩)
          rw [q_cl (by omega)]
          rintro k21 rfl
          obtain ⟨hcore1, harr⟩ := core_add (t2 := t2) hcore hq0 hn20 ha
          have hQA : ∀ a, a ∈ QC → a ∈ A := fun a ha => (hM.2.2.2.1 a ha).1
          have hS1 : Srt (kAdd k q n a (nI t2)) A QC d A.length := srt_arr hS (fun x hx => by
            rw [harr]
            show (if x = q then 0 else arr k x) = arr k x
            exact if_neg (show ¬ x = q from fun e => (core_mem hcore hx).1 (e ▸ hq0))) hQA
          have hcore2 : Core (kAdd k q n a (nI t2)) (mset (mAdd m n a (nI t2)) 7 0 (nI (n + 1))) (n + 1) r d (fun i => if i = n then q else ca i) ra A QC (UB t) (EB (c + 1) t) := by
            obtain ⟨g1, g2, g3, g4, g5, g6, g7, g8⟩ := hcore1
            exact ⟨g1, g2, g3, g4, g5, pA_mono g6 (EB_step c t (x := 0) (by omega)), g7, g8⟩
          obtain ⟨s6, s5⟩ := rel_send (S0 := S0) (c1 := q) (kind := 0) (x := 1) (y := nI n) (w := a + 1) (a4 := none) hcore2 hS1 hL1 hL2 hL3 hL4 hc (by omega) (Or.inl ⟨rfl, n, by omega, rfl, (if_pos rfl).symm, Or.inl ⟨rfl, rfl⟩⟩) (fun q' e => (nomatch e)) (fun _ _ _ e => (nomatch e))
          refine sx_news (k := kAdd k q n a (nI t2)) (a := a) ?_ (s5 (fun _ k1 => Q (nI n) k1) hq)
          show upd (upd (k.1 11) q 0) q (nI a) q = _
          exact upd_s _ _ _
    · refine ⟨-1, mset m 23 0 1, fun Q2 hq => ?_, Or.inr (Or.inl ⟨rfl, fun Q QX hq => ?_⟩), thr_pp (by decide)⟩
      · exact sm_house_y ha (b1 (sm_title_n hp (b0 (sm_holds1 (b1 hq)))))
      · exact sx_house_y ha (b1 (sx_title_n hp (b0 ⟨by decide, hq k (rel_thr h 1)⟩)))
  · refine ⟨-1, mset m 23 0 1, fun Q2 hq => ?_, Or.inr (Or.inl ⟨rfl, fun Q QX hq => ?_⟩), thr_pp (by decide)⟩
    · exact sm_house_n hp (b0 (sm_holds1 (b1 hq)))
    · exact sx_house_n hp (b0 ⟨by decide, hq k (rel_thr h 1)⟩)


theorem oj_request {S0 c cc : Nat} {k : kS} {m : mS} (p p2 : Int32) (hc : c < 512) (h : Rel c k m) (hJ : JX m cc) : OpP m (Rel (c + 1)) "java/lang/IllegalArgumentException" (wX6_request m p p2) (wX5_request S0 k p p2) (PRq m cc p p2) := by
  have h' := h
  obtain ⟨n, r, d, t, ca, ra, A, QC, hcore, hS, hL1, hL2, hL3, hL4⟩ := h'
  have hcore' := hcore
  obtain ⟨⟨n1, n2, n3⟩, ⟨c1, c2, c3⟩, ⟨d1, d2, d3⟩, hC, hR, hA, hQ, hM⟩ := hcore'
  have hg := Gr_le (m 10) r
  rcases q_rng p 6 (by decide) with ⟨a, ha, rfl⟩ | ⟨hp, -⟩
  · rcases q_rng p2 8 (by decide) with ⟨t2, ht2, rfl⟩ | ⟨hp, -⟩
    · by_cases hn : r = 40
      · refine ⟨-1, mset m 23 0 2, fun Q2 hq => ?_, Or.inr (Or.inr ⟨rfl, fun Q QX hq => ?_⟩), thr_pp (by decide)⟩
        · exact sm_house_y ha (b1 (sm_title_y ht2 (b1 (bi (by rw [c1, hn]; rfl) (sm_holds2 (b1 hq))))))
        · refine sx_house_y ha (b1 (sx_title_y ht2 (b1 ?_)))
          rw [c2]
          exact bn (q_nn (by omega)) (bn (by rw [show (40 : Int32) = nI 40 from rfl, q_lt (by omega) (by omega)]; omega) ⟨by decide, hq k (rel_thr h 2)⟩)
      · have hr40 : r < 40 := by omega
        have hin : vp_in (nI r) 40 := q_in hr40 (by decide)
        have hAs0 : Asks (fun b _ => if b = 20 then nI a else if b = 21 then nI t2 else 0, fun _ _ => none, fun _ => 0) (mReq m r a (nI t2)) 0 r a 0 := by
          have z := hR.2.1 r (Nat.le_refl _) hr40
          have m8 : mReq m r a (nI t2) 8 r = nI a := by show upd (m 8) r (nI a) r = _; exact upd_s _ _ _
          have m9 : mReq m r a (nI t2) 9 r = nI t2 := by show upd (m 9) r (nI t2) r = _; exact upd_s _ _ _
          have m13 : mReq m r a (nI t2) 13 r = 0 := z.2.2.1
          exact ⟨m8.symm, m9.symm, m13.symm, m8, ha, m13, by decide⟩
        have e15 : mReq m r a (nI t2) 15 0 = nI (r + 1) := by show upd (m 15) 0 (nI (r + 1)) 0 = _; exact upd_s _ _ _
        have hz := hR.2.1 r (Nat.le_refl _) hr40
        refine ⟨nI r, mEnd (mReq m r a (nI t2)) r a n A.length d, fun Q2 hq => ?_, Or.inl ⟨?_, fun Q QX hq => ?_⟩, ok_pp (by rw [mEnd_c _ _ _ _ _ _ (Or.inr (Or.inr rfl))]; rfl) (prq_ok ⟨t2, ht2, rfl⟩ hJ n1 n3 c1 hr40 hM.1 hM.2.1 ha hz.2.1 hz.2.2.1)⟩
        · refine sm_house_y ha (b1 (sm_title_y ht2 (b1 (bn (by rw [c1]; intro e; exact hn (q_inj (by omega) (by decide) e)) (sm_holds0 (b0 ?_))))))
          rw [show mset m 23 0 0 15 0 = nI r from c1]
          refine ⟨hin, ?_⟩
          rw [q_cl (by omega)]
          rintro m1 rfl
          rw [show mset (mset m 23 0 0) 8 r (nI a) 15 0 = nI r from c1]
          refine ⟨hin, ?_⟩
          rw [q_cl (by omega)]
          rintro m1 rfl m2 rfl
          rw [show mset (mset (mset m 23 0 0) 8 r (nI a)) 9 r (nI t2) 15 0 = nI r from c1, nI_1]
          show wX6_ask (mReq m r a (nI t2)) (mReq m r a (nI t2) 15 0 - 1) _
          rw [e15, nI_pred]
          refine ask_m (k := k) (m := mReq m r a (nI t2)) (u := A.length) (d := d) hC n1 n3 hr40 hAs0 hM.1 (by have := hM.2.1; omega) d1 _ ?_
          rw [mEnd_c _ _ _ _ _ _ (Or.inl rfl), e15, nI_pred]
          exact hq
        · rw [mEnd_c _ _ _ _ _ _ (Or.inr (Or.inr rfl))]; rfl
        · refine sx_house_y ha (b1 (sx_title_y ht2 (b1 ?_)))
          rw [c2]
          refine bn (q_nn (by omega)) (bi (by rw [show (40 : Int32) = nI 40 from rfl, q_lt (by omega) (by omega)]; omega) ⟨by decide, fun q hq0 _ => ?_⟩)
          rintro k13 rfl k1 rfl k2 rfl k3 rfl k4 rfl k5 rfl k6 rfl k7 rfl
          refine ⟨hin, ?_⟩
          rw [q_cl (by omega), nI_1]
          rintro k18 rfl k19 rfl
          show wX5_askNextHome S0 (kReq k q r a (nI t2)) q _
          obtain ⟨HF0, harr⟩ := core_req (t2 := t2) hcore hq0 hr40 ha
          obtain ⟨ra', hra'⟩ : ∃ f : Nat → Nat, f = fun i => if i = r then q else ra i := ⟨_, rfl⟩
          have er : ra' r = q := by rw [hra']; exact if_pos rfl
          rw [← hra'] at HF0
          have HF : Core (kFail (kReq k q r a (nI t2)) (ra' r)) (mFail (mReq m r a (nI t2)) r) n (r + 1) d ca ra' A QC (UB t) (EB (c + 1) t) := by
            rw [er]
            obtain ⟨g1, g2, g3, g4, g5, g6, g7, g8⟩ := HF0
            exact ⟨g1, g2, g3, g4, g5, pA_mono g6 (EB_step c t (x := 0) (by omega)), g7, g8⟩
          have hAs : Asks (kReq k q r a (nI t2)) (mReq m r a (nI t2)) (ra' r) r a 0 := by
            have k20 : (kReq k q r a (nI t2)).1 20 q = nI a := by show upd (upd (k.1 20) q 0) q (nI a) q = _; exact upd_s _ _ _
            have k21 : (kReq k q r a (nI t2)).1 21 q = nI t2 := by show upd (upd (k.1 21) q 0) q (nI t2) q = _; exact upd_s _ _ _
            have k26 : (kReq k q r a (nI t2)).1 26 q = 0 := by show upd (upd (k.1 26) q 0) q 0 q = _; exact upd_s _ _ _
            obtain ⟨s1, s2, s3, s4, s5, s6, s7⟩ := hAs0
            rw [er]
            exact ⟨k20.trans s1, k21.trans s2, k26.trans s3, s4, s5, s6, s7⟩
          have h23 : (kReq k q r a (nI t2)).1 23 (ra' r) = 0 := by
            rw [er]
            show upd (upd (k.1 23) q 0) q 0 q = _
            exact upd_s _ _ _
          have hQA : ∀ a, a ∈ QC → a ∈ A := fun a ha => (hM.2.2.2.1 a ha).1
          have hqA : ∀ x, x ∈ A → x ≠ q := fun x hx e => (core_mem hcore hx).1 (e ▸ hq0)
          have hS1 : Srt (kReq k q r a (nI t2)) A QC d A.length := srt_arr hS (fun x hx => harr x (hqA x hx)) hQA
          have hgr : Gr (mFail (mReq m r a (nI t2)) r 10) (r + 1) = Gr (m 10) r := by
            show Gr (upd (m 10) r 5) r + g1 (upd (m 10) r 5 r) = _
            rw [upd_s, show g1 5 = 0 by decide, Gr_cg (f := upd (m 10) r 5) (g := m 10) r (fun j hj => upd_n _ _ (by omega))]
            omega
          have hE := ask_both (S0 := S0) HF (by omega) h23 hAs (by omega) (by have := hM.2.1; omega)
          rw [er] at hE
          rcases hE with ⟨e1, hE⟩ | ⟨b, w, v', e1, hw1, hw2, -, -, -, hE⟩
          · refine hE _ (hq _ ?_)
            rw [e1]
            exact ⟨n, r + 1, d, t, ca, ra', A, QC, HF, hS1, hL1, by omega, hL3, by rw [hgr]; omega⟩
          · refine hE _ (fun k' q' QC' hC' hlen harr' _ hsrt => hq _ ?_)
            refine ⟨n, r + 1, d, t, ca, ra', _, _, hC', srt_last (hsrt A.length (Nat.le_refl _) hS1) (by omega), ?_, by omega, hL3, ?_⟩
            · rw [hlen, List.length_append, List.length_singleton]; omega
            · rw [hlen, e1]
              have : Gr (mSend (mAsk (mReq m r a (nI t2)) r b) A.length 2 (nI r) (nI (d + w)) 10) (r + 1) = Gr (m 10) r := by
                show Gr (upd (m 10) r 0) r + g1 (upd (m 10) r 0 r) = _
                rw [upd_s, show g1 0 = 0 by decide, Gr_cg (f := upd (m 10) r 0) (g := m 10) r (fun j hj => upd_n _ _ (by omega))]
                omega
              rw [this]
              omega
    · refine ⟨-1, mset m 23 0 1, fun Q2 hq => ?_, Or.inr (Or.inl ⟨rfl, fun Q QX hq => ?_⟩), thr_pp (by decide)⟩
      · exact sm_house_y ha (b1 (sm_title_n hp (b0 (sm_holds1 (b1 hq)))))
      · exact sx_house_y ha (b1 (sx_title_n hp (b0 ⟨by decide, hq k (rel_thr h 1)⟩)))
  · refine ⟨-1, mset m 23 0 1, fun Q2 hq => ?_, Or.inr (Or.inl ⟨rfl, fun Q QX hq => ?_⟩), thr_pp (by decide)⟩
    · exact sm_house_n hp (b0 (sm_holds1 (b1 hq)))
    · exact sx_house_n hp (b0 ⟨by decide, hq k (rel_thr h 1)⟩)


theorem oj_settle {S0 c cc : Nat} {k : kS} {m : mS} (hc : c < 512) (h : Rel c k m) (hJ : JX m cc) : ∃ (v : Int32) (m1 : mS), (∀ Q2 : Int32 → mS → Prop, Q2 v m1 → wX6_settle m Q2) ∧ (∀ Q : Int32 → kS → Prop, (∀ k1, Rel (c + 1) k1 m1 → Q v k1) → wX5_settle S0 k Q) ∧ PSt m cc v m1 := by
  obtain ⟨n, r, d, t, ca, ra, A, QC, ⟨h1, h2, h3, h4, h5, h6, h7, h8⟩, hS, hL1, hL2, hL3, hL4⟩ := h
  have hEl := EB_lt (c := c) (t := t) (d := d) (by omega) hL2 hL3
  obtain ⟨fz, hfz⟩ : ∃ f : Nat → Int32, f = fun j => if j < 36 then 0 else m 20 j := ⟨_, rfl⟩
  -- the reference's last state is told by its own walk
  have key : ∀ (y x : Nat), x + y = 36 → ∀ (Q : Int32 → mS → Prop) (v : Int32) (cn : Nat), cn ≤ x → v = nI (cn + cR m y x) → Q v (mset (mcol m 20 fz) 23 0 0) → wX6_settle_l4 Q (y + 1) (nI x) (nI cn) (mcol m 20 (fun j => if j < x then 0 else m 20 j)) := by
    intro y
    induction y with
    | zero =>
      intro x hxy Q v cn hcx hv hq
      obtain rfl : x = 36 := by omega
      unfold wX6_settle_l4
      refine bi (by decide) ?_
      rintro m1 rfl
      rw [show nI cn = v from hv.symm, ← hfz]
      exact hq
    | succ y ih =>
      intro x hxy Q v cn hcx hv hq
      unfold wX6_settle_l4
      refine bn (by rw [show (36 : Int32) = nI 36 from rfl, q_le (by omega) (by omega)]; omega) ⟨q_in (by omega) (by decide), ?_⟩
      rw [q_cl (by omega), nI_1, nI_1, mcol_s, if_neg (Nat.lt_irrefl _), Int32.add_zero]
      have hu : upd (fun j => if j < x then 0 else m 20 j) x 0 = fun j => if j < x + 1 then 0 else m 20 j := by
        funext j
        by_cases e : j = x
        · rw [e, upd_s, if_pos (by omega)]
        · rw [upd_n _ _ e]
          by_cases e2 : j < x
          · rw [if_pos e2, if_pos (by omega)]
          · rw [if_neg e2, if_neg (by omega)]
      have hv' : v = nI (cn + (tp (m 20 x) + cR m y (x + 1))) := hv
      by_cases hz : m 20 x ≤ 0
      · refine bi hz ⟨q_in (by omega) (by decide), ?_⟩
        rintro m1 rfl
        rw [mset_mcol, hu]
        refine ih (x + 1) (by omega) Q v cn (by omega) ?_ hq
        rw [hv', show tp (m 20 x) = 0 from if_pos hz, Nat.zero_add]
      · refine bn hz ⟨q_in (by omega) (by decide), ?_⟩
        rintro m1 rfl
        rw [mset_mcol, hu]
        refine ih (x + 1) (by omega) Q v (cn + 1) (by omega) ?_ hq
        rw [hv', show tp (m 20 x) = 1 from if_neg hz, ← Nat.add_assoc]
  refine ⟨nI (cR m 36 0), mset (mcol m 20 fz) 23 0 0, fun Q2 hq => ⟨37, ?_⟩, fun Q hq => ⟨7, ?_⟩, pq_same hJ (fun a _ _ h20 h23 => (ms_c _ _ _ _ h23).trans (if_neg h20)) ⟨_, by rw [← cnt_eq h6 (by omega)]; exact cO_15 _, rfl⟩, fun j hj => ?_, fun hz => by rw [cR_0 m 36 0 (fun j _ h => hz j (by omega))]; rfl⟩
  · have := key 36 0 rfl Q2 (nI (cR m 36 0)) 0 (Nat.le_refl _) (by rw [Nat.zero_add]) hq
    have e : mcol m 20 (fun j => if j < 0 then 0 else m 20 j) = m := by
      have : (fun j => if j < 0 then (0 : Int32) else m 20 j) = m 20 := by funext j; rw [if_neg (by omega)]
      rw [this, mcol_id]
    rw [e] at this
    exact this
  · refine sx_out (v := nI (cR m 36 0)) (fun f hf => hq _ ?_) 6 0 0 rfl (by omega) (by rw [cnt_eq h6 (by omega), Nat.zero_add])
    refine ⟨n, r, d, t, ca, ra, A, QC, ⟨h1, h2, h3, h4, h5, ⟨fun a b ha hb => ?_, fun j hj => ?_, h6.2.2⟩, h7, h8⟩, hS, hL1, by omega, hL3, Nat.le_trans hL4 (show c + Gr (m 10) r ≤ c + 1 + Gr (m 10) r by omega)⟩
    · show (kcol k 4 f).1 4 _ - (kcol k 4 f).1 4 _ = mcol m 20 fz 20 _
      rw [kcol_s, mcol_s, hf _ (by omega), hf _ (by omega), hfz]
      simp only
      rw [if_pos (by omega)]; rfl
    · show _ ≤ (mcol m 20 fz 20 j).toInt ∧ (mcol m 20 fz 20 j).toInt ≤ _
      rw [mcol_s, hfz]
      simp only
      rw [if_pos hj]
      have : (0 : Int32).toInt = 0 := rfl
      omega
  · show mcol m 20 fz 20 j = 0
    rw [mcol_s, hfz]
    simp only
    rw [if_pos hj]

