/-! PURE: a new copy -/
theorem mRow_new {k : kS} {n n' r r' : Nat} {ca ca' ra ra' : Nat → Nat} {a : Nat} {x y z : Int32} (h : mRow k n r ca ra a x y z) (hn : n ≤ n') (hr : r ≤ r') (hca : ∀ i, i < n → ca' i = ca i) (hra : ∀ i, i < r → ra' i = ra i) : mRow k n' r' ca' ra' a x y z := by
  obtain ⟨h1, h2, h3, h4⟩ := h
  refine ⟨h1, h2, h3, ?_⟩
  rcases h4 with ⟨e1, i, hi, e2, e3, e4⟩ | ⟨i, c, hi, e1, e2, e3, e4⟩
  · exact Or.inl ⟨e1, i, by omega, e2, by rw [hca i hi]; exact e3, e4⟩
  · exact Or.inr ⟨i, c, by omega, e1, by rw [hra i hi]; exact e2, e3, e4⟩
theorem pM_new {k k' : kS} {m m' : mS} {n n' r r' : Nat} {ca ca' ra ra' : Nat → Nat} {A QC : List Nat} (h : pM k m n r ca ra A QC) (hn : n ≤ n') (hr : r ≤ r') (hca : ∀ i, i < n → ca' i = ca i) (hra : ∀ i, i < r → ra' i = ra i) (hm : ∀ a, 16 ≤ a → a ≤ 19 → m' a = m a) (hk : ∀ a, a ∈ A → k'.2.2 a = k.2.2 a ∧ k'.1 30 a = k.1 30 a ∧ k'.1 31 a = k.1 31 a ∧ k'.2.1 32 a = k.2.1 32 a ∧ k'.2.1 33 a = k.2.1 33 a) (hq : ∀ i, i < r → k'.1 23 (ra i) = k.1 23 (ra i) ∧ k'.2.1 22 (ra i) = k.2.1 22 (ra i)) : pM k' m' n' r' ca' ra' A QC := by
  obtain ⟨m1, m2, m3, m4, m5, m6⟩ := h
  refine ⟨by rw [hm 19 (by decide) (by decide)]; exact m1, m2, fun j a hj => ?_, fun a ha => ⟨(m4 a ha).1, ?_⟩, ?_, m6⟩
  · obtain ⟨g1, g2, g3, g4, g5⟩ := hk a (List.mem_of_getElem? hj)
    rw [hm 16 (by decide) (by decide), hm 17 (by decide) (by decide), hm 18 (by decide) (by decide)]
    exact mRow_cg (mRow_new (m3 j a hj) hn hr hca hra) g1 g2 g3 g4 g5
  · obtain ⟨haA, hl⟩ := m4 a ha
    obtain ⟨g1, g2, g3, g4, g5⟩ := hk a haA
    intro q e
    rw [g5] at e
    obtain ⟨j, hj⟩ := List.mem_iff_getElem?.mp haA
    obtain ⟨-, -, -, hrow⟩ := m3 j a hj
    rcases hrow with ⟨e1, -⟩ | ⟨i, c, hi, -, e1, -⟩
    · rw [e1] at e; cases e
    · have e' := e
      rw [e1] at e
      cases e
      rw [g2, g4, (hq i hi).1, (hq i hi).2]
      exact hl _ e'
  · refine List.Pairwise.imp_of_mem (fun {a b} ha hb h => ?_) m5
    obtain ⟨-, g2, -, -, g5⟩ := hk a (m4 a ha).1
    obtain ⟨-, f2, -, -, f5⟩ := hk b (m4 b hb).1
    intro q
    rw [g5, f5, g2, f2]
    exact h q
theorem rRow_new {f : Nat → Int32} {p : Option Nat} {g : Nat → Int32} {n n' : Nat} {ca ca' : Nat → Nat} {U : Nat} (h : rRow f p g n ca U) (hn : n ≤ n') (hca : ∀ i, i < n → ca' i = ca i) : rRow f p g n' ca' U := by
  obtain ⟨h1, h2, h3, h4, h5, h6, h7, h8, h9, h10, h11⟩ := h
  refine ⟨h1, h2, h3, h4, h5, h6, h7, h8, h9, h10, ?_⟩
  rcases h11 with h11 | ⟨j, hj, e1, e2, e3⟩
  · exact Or.inl h11
  · exact Or.inr ⟨j, by omega, e1, by rw [hca j hj]; exact e2, e3⟩
theorem cnt_cg {f g : Nat → Int32} (h : Nat) : ∀ n, (∀ i, i < n → f i = g i) → cnt f h n = cnt g h n := by
  intro n
  induction n with
  | zero => intro _; rfl
  | succ n ih =>
    intro hh
    show cnt f h n + (if f n = nI h then 1 else 0) = cnt g h n + (if g n = nI h then 1 else 0)
    rw [ih (fun i hi => hh i (by omega)), hh n (by omega)]
theorem cnt_le (f : Nat → Int32) (h : Nat) : ∀ n, cnt f h n ≤ n := by
  intro n
  induction n with
  | zero => exact Nat.le_refl _
  | succ n ih => show cnt f h n + (if _ then 1 else 0) ≤ n + 1; split <;> omega
def kCopy (k : kS) (q : Nat) (v1 v2 v3 : Int32) : kS := kset (kset (kset (kset (kset (kset (kset (kset (knew k q 1) 10 q v1) 11 q v2) 12 q v3) 13 q v2) 14 q 0) 15 q (-1)) 16 q (-1)) 17 q 0
def kAdd (k : kS) (q n a : Nat) (v3 : Int32) : kS := kset (kset (kptr (kCopy k q (nI n) (nI a) v3) 0 n (some q)) 0 0 (nI (n + 1))) 5 a (k.1 5 a + 1)
def mAdd (m : mS) (n a : Nat) (v3 : Int32) : mS := mset (mset (mset (mset (mset (mset (mset m 23 0 0) 0 n (nI a)) 1 n v3) 2 n (nI a)) 3 n (nI a)) 4 n (-1)) 5 n (-1)
theorem knew_n (k : kS) (q t : Nat) {a x : Nat} (hx : x ≠ q) : (knew k q t).1 a x = k.1 a x := by
  show (if 10 ≤ a then upd (k.1 a) q 0 else k.1 a) x = _
  split
  · exact upd_n _ _ hx
  · rfl
theorem kAdd_n (k : kS) (q n a : Nat) (v3 : Int32) {b x : Nat} (hb : 10 ≤ b) (hx : x ≠ q) : (kAdd k q n a v3).1 b x = k.1 b x := by
  have h1 : (kAdd k q n a v3).1 b x = (kCopy k q (nI n) (nI a) v3).1 b x := congrFun ((ks_c _ _ _ _ (show b ≠ 5 by omega)).trans (ks_c _ _ _ _ (show b ≠ 0 by omega))) x
  rw [h1]
  exact (ks_n _ _ _ _ hx).trans ((ks_n _ _ _ _ hx).trans ((ks_n _ _ _ _ hx).trans ((ks_n _ _ _ _ hx).trans ((ks_n _ _ _ _ hx).trans ((ks_n _ _ _ _ hx).trans ((ks_n _ _ _ _ hx).trans ((ks_n _ _ _ _ hx).trans (knew_n _ _ _ hx))))))))
theorem kAdd_p (k : kS) (q n a : Nat) (v3 : Int32) {b x : Nat} (hb : 10 ≤ b) (hx : x ≠ q) : (kAdd k q n a v3).2.1 b x = k.2.1 b x := by
  show (if b = 0 then va_up (if 10 ≤ b then va_up (k.2.1 b) q none else k.2.1 b) n (some q) else (if 10 ≤ b then va_up (k.2.1 b) q none else k.2.1 b)) x = _
  rw [if_neg (by omega), if_pos hb, va_up_ne _ _ hx]
theorem msend_comm (m : mS) (u : Nat) (x y z v : Int32) : mset (mSend m u x y z) 7 0 v = mSend (mset m 7 0 v) u x y z := by
  funext b
  by_cases h7 : b = 7
  · subst h7; rfl
  · rw [ms_c _ _ _ _ h7]
    show mset (mset (mset (mset m 16 u x) 17 u y) 18 u z) 19 0 (nI (u + 1)) b = mset (mset (mset (mset (mset m 7 0 v) 16 u x) 17 u y) 18 u z) 19 0 (nI (u + 1)) b
    have e : mset m 7 0 v b = m b := ms_c _ _ _ _ h7
    unfold mset at e ⊢
    rw [e]
theorem core_add {k : kS} {m : mS} {n r d q a t2 : Nat} {ca ra : Nat → Nat} {A QC : List Nat} {U E : Nat} (h : Core k m n r d ca ra A QC U E) (hq : k.2.2 q = 0) (hn : n < 20) (ha : a < 6) :
    Core (kAdd k q n a (nI t2)) (mset (mAdd m n a (nI t2)) 7 0 (nI (n + 1))) (n + 1) r d (fun i => if i = n then q else ca i) ra A QC U E ∧ arr (kAdd k q n a (nI t2)) = (fun x => if x = q then 0 else arr k x) := by
  have hcore := h
  obtain ⟨⟨n1, n2, n3⟩, ⟨r1, r2, r3⟩, ⟨d1, d2, d3⟩, hC, hR, hA, hQ, hM⟩ := h
  have hqA : ∀ a, a ∈ A → a ≠ q := fun a ha e => (core_mem hcore ha).1 (e ▸ hq)
  have hqc : ∀ i, i < n → ca i ≠ q := fun i hi e => by
    have := (hC.1 i hi).2.1
    rw [e, hq] at this
    exact absurd this (by decide)
  have hqr : ∀ i, i < r → ra i ≠ q := fun i hi e => by
    have := (hR.1 i hi).2.1
    rw [e, hq] at this
    exact absurd this (by decide)
  have k22 : ∀ x, x ≠ q → (kAdd k q n a (nI t2)).2.2 x = k.2.2 x := fun x hx => va_up_ne _ _ hx
  have mo : ∀ b, b ≤ 6 → ∀ j, j ≠ n → mset (mAdd m n a (nI t2)) 7 0 (nI (n + 1)) b j = m b j := by
    intro b hb j hj
    refine (congrFun (ms_c _ _ _ _ (show b ≠ 7 by omega)) j).trans ?_
    exact (ms_n _ _ _ _ hj).trans ((ms_n _ _ _ _ hj).trans ((ms_n _ _ _ _ hj).trans ((ms_n _ _ _ _ hj).trans ((ms_n _ _ _ _ hj).trans ((ms_n _ _ _ _ hj).trans (congrFun (ms_c _ _ _ _ (show b ≠ 23 by omega)) j))))))
  have mc : ∀ b, 8 ≤ b → b ≤ 22 → mset (mAdd m n a (nI t2)) 7 0 (nI (n + 1)) b = m b := by
    intro b h1 h2
    exact (ms_c _ _ _ _ (show b ≠ 7 by omega)).trans ((ms_c _ _ _ _ (show b ≠ 5 by omega)).trans ((ms_c _ _ _ _ (show b ≠ 4 by omega)).trans ((ms_c _ _ _ _ (show b ≠ 3 by omega)).trans ((ms_c _ _ _ _ (show b ≠ 2 by omega)).trans ((ms_c _ _ _ _ (show b ≠ 1 by omega)).trans ((ms_c _ _ _ _ (show b ≠ 0 by omega)).trans (ms_c _ _ _ _ (show b ≠ 23 by omega))))))))
  refine ⟨⟨⟨?_, ?_, by omega⟩, ⟨r1, r2, r3⟩, ⟨d1, d2, d3⟩, ⟨fun i hi => ?_, fun i hi h20 => ?_⟩, ⟨fun i hi => ?_, fun i hi h40 => ?_, hR.2.2⟩, ⟨hA.1, hA.2.1, fun x hx => ?_, hA.2.2.2⟩, hQ, ?_⟩, ?_⟩
  · show upd (m 7) 0 (nI (n + 1)) 0 = _
    exact upd_s _ _ _
  · show upd (k.1 0) 0 (nI (n + 1)) 0 = _
    exact upd_s _ _ _
  · simp only
    by_cases e : i = n
    · subst e
      rw [if_pos rfl]
      refine ⟨va_up_self _ _ _, va_up_self _ _ _, ?_⟩
      have m0 : mset (mAdd m i a (nI t2)) 7 0 (nI (i + 1)) 0 i = nI a := by show upd (m 0) i (nI a) i = _; exact upd_s _ _ _
      have m1 : mset (mAdd m i a (nI t2)) 7 0 (nI (i + 1)) 1 i = nI t2 := by show upd (m 1) i (nI t2) i = _; exact upd_s _ _ _
      have m2 : mset (mAdd m i a (nI t2)) 7 0 (nI (i + 1)) 2 i = nI a := by show upd (m 2) i (nI a) i = _; exact upd_s _ _ _
      have m3 : mset (mAdd m i a (nI t2)) 7 0 (nI (i + 1)) 3 i = nI a := by show upd (m 3) i (nI a) i = _; exact upd_s _ _ _
      have m4 : mset (mAdd m i a (nI t2)) 7 0 (nI (i + 1)) 4 i = -1 := by show upd (m 4) i (-1) i = _; exact upd_s _ _ _
      have m5 : mset (mAdd m i a (nI t2)) 7 0 (nI (i + 1)) 5 i = -1 := by show upd (m 5) i (-1) i = _; exact upd_s _ _ _
      have m6 : mset (mAdd m i a (nI t2)) 7 0 (nI (i + 1)) 6 i = 0 := (hC.2 i (Nat.le_refl _) hn).2
      have k10 : (kAdd k q i a (nI t2)).1 10 q = nI i := by show upd (upd (k.1 10) q 0) q (nI i) q = _; exact upd_s _ _ _
      have k11 : (kAdd k q i a (nI t2)).1 11 q = nI a := by show upd (upd (k.1 11) q 0) q (nI a) q = _; exact upd_s _ _ _
      have k12 : (kAdd k q i a (nI t2)).1 12 q = nI t2 := by show upd (upd (k.1 12) q 0) q (nI t2) q = _; exact upd_s _ _ _
      have k13 : (kAdd k q i a (nI t2)).1 13 q = nI a := by show upd (upd (k.1 13) q 0) q (nI a) q = _; exact upd_s _ _ _
      have k14 : (kAdd k q i a (nI t2)).1 14 q = 0 := by show upd (upd (k.1 14) q 0) q 0 q = _; exact upd_s _ _ _
      have k15 : (kAdd k q i a (nI t2)).1 15 q = -1 := by show upd (upd (k.1 15) q 0) q (-1) q = _; exact upd_s _ _ _
      have k16 : (kAdd k q i a (nI t2)).1 16 q = -1 := by show upd (upd (k.1 16) q 0) q (-1) q = _; exact upd_s _ _ _
      have k17 : (kAdd k q i a (nI t2)).1 17 q = 0 := by show upd (upd (k.1 17) q 0) q 0 q = _; exact upd_s _ _ _
      exact ⟨k10, k11.trans m0.symm, k12.trans m1.symm, k13.trans m3.symm, k15.trans m4.symm, k16.trans m5.symm, k17.trans m6.symm, Or.inl ⟨k14, m2.trans m3.symm⟩, ⟨a, ha, m0⟩, ⟨a, ha, m3⟩, Or.inl m5, Or.inl m6⟩
    · rw [if_neg e]
      have hi' : i < n := by omega
      obtain ⟨a1, a2, a3⟩ := hC.1 i hi'
      refine ⟨(va_up_ne _ _ e).trans a1, (k22 _ (hqc i hi')).trans a2, cRow_cg a3 (fun b h1 h2 => kAdd_n _ _ _ _ _ h1 (hqc i hi')) (fun b hb => mo b hb i e)⟩
  · refine ⟨(va_up_ne _ _ (show i ≠ n by omega)).trans (hC.2 i (by omega) h20).1, (mo 6 (by omega) i (by omega)).trans (hC.2 i (by omega) h20).2⟩
  · obtain ⟨a1, a2, a3⟩ := hR.1 i hi
    refine ⟨a1, (k22 _ (hqr i hi)).trans a2, ?_⟩
    rw [kAdd_p k q n a (nI t2) (b := 22) (by decide) (hqr i hi)]
    refine rRow_new (rRow_cg a3 (Nat.le_refl _) (fun b h1 h2 => kAdd_n _ _ _ _ _ (by omega) (hqr i hi)) (fun b h1 h2 => congrFun (mc b (by omega) (by omega)) i)) (Nat.le_succ n) (fun j hj => if_neg (by omega))
  · exact hR.2.1 i hi h40
  · have h5 := hA.2.2.1 x hx
    show upd (k.1 5) a (k.1 5 a + 1) x = nI (cnt (mset (mAdd m n a (nI t2)) 7 0 (nI (n + 1)) 0) x n + (if mset (mAdd m n a (nI t2)) 7 0 (nI (n + 1)) 0 n = nI x then 1 else 0))
    rw [cnt_cg (g := m 0) x n (fun j hj => mo 0 (by decide) j (by omega)), show mset (mAdd m n a (nI t2)) 7 0 (nI (n + 1)) 0 n = nI a by show upd (m 0) n (nI a) n = _; exact upd_s _ _ _]
    by_cases e : x = a
    · subst e
      rw [upd_s, h5, if_pos rfl, nI_1]
    · rw [upd_n _ _ e, if_neg (fun e2 => e (q_inj (by omega) (by omega) e2).symm), h5, Nat.add_zero]
  · exact pM_new hM (Nat.le_succ n) (Nat.le_refl _) (fun i hi => if_neg (by omega)) (fun _ _ => rfl) (fun b h1 h2 => mc b (by omega) (by omega)) (fun x hx => ⟨k22 x (hqA x hx), kAdd_n _ _ _ _ _ (by decide) (hqA x hx), kAdd_n _ _ _ _ _ (by decide) (hqA x hx), kAdd_p _ _ _ _ _ (by decide) (hqA x hx), kAdd_p _ _ _ _ _ (by decide) (hqA x hx)⟩) (fun i hi => ⟨kAdd_n _ _ _ _ _ (by decide) (hqr i hi), kAdd_p _ _ _ _ _ (by decide) (hqr i hi)⟩)
  · funext x
    unfold arr
    by_cases e : x = q
    · subst e
      rw [if_pos rfl]
      show (upd (k.1 31) x 0 x).toNatClampNeg = 0
      rw [upd_s]; rfl
    · rw [if_neg e, kAdd_n _ _ _ _ _ (by decide) e]
theorem srt_arr {k k' : kS} {A QC : List Nat} {d j : Nat} (h : Srt k A QC d j) (hA : ∀ a, a ∈ A → arr k' a = arr k a) (hQ : ∀ a, a ∈ QC → a ∈ A) : Srt k' A QC d j := by
  have hfil : ∀ (L : List Nat), (∀ a, a ∈ L → a ∈ A) → ∀ w, L.filter (fun a => arr k' a == w) = L.filter (fun a => arr k a == w) := by
    intro L hL w
    exact List.filter_congr (fun a ha => by rw [hA a (hL a ha)])
  obtain ⟨t1, t2, t3, t4⟩ := h
  refine ⟨List.Pairwise.imp_of_mem (fun {a b} ha hb h => by rw [hA a (hQ a ha), hA b (hQ b hb)]; exact h) t1, fun v hv => ?_, ?_, fun a ha => by rw [hA a (hQ a ha)]; exact t4 a ha⟩
  · rw [hfil QC hQ, hfil A (fun _ h => h)]; exact t2 v hv
  · rw [hfil QC hQ, hfil _ (fun a ha => List.mem_of_mem_drop ha)]; exact t3
theorem op_addCopy {S0 c : Nat} {k : kS} {m : mS} (p p2 : Int32) (hc : c < 512) (h : Rel c k m) : OpI (Rel (c + 1)) "java/lang/IllegalArgumentException" (wX6_addCopy m p p2) (wX5_addCopy S0 k p p2) := by
  have h' := h
  obtain ⟨n, r, d, t, ca, ra, A, QC, hcore, hS, hL1, hL2, hL3, hL4⟩ := h'
  have hcore' := hcore
  obtain ⟨⟨n1, n2, n3⟩, ⟨c1, c2, c3⟩, ⟨d1, d2, d3⟩, hC, hR, hA, hQ, hM⟩ := hcore'
  have hg := Gr_le (m 10) r
  rcases q_rng p 6 (by decide) with ⟨a, ha, rfl⟩ | ⟨hp, -⟩
  · rcases q_rng p2 8 (by decide) with ⟨t2, ht2, rfl⟩ | ⟨hp, -⟩
    · by_cases hn : n = 20
      · refine ⟨-1, mset m 23 0 2, fun Q2 hq => ?_, Or.inr (Or.inr ⟨rfl, fun Q QX hq => ?_⟩)⟩
        · exact sm_house_y ha (b1 (sm_title_y ht2 (b1 (bi (by rw [n1, hn]; rfl) (sm_holds2 (b1 hq))))))
        · refine sx_house_y ha (b1 (sx_title_y ht2 (b1 ?_)))
          rw [n2]
          exact bn (q_nn (by omega)) (bn (by rw [show (20 : Int32) = nI 20 from rfl, q_lt (by omega) (by omega)]; omega) ⟨by decide, hq k (rel_thr h 2)⟩)
      · have hn20 : n < 20 := by omega
        have hin : vp_in (nI n) 20 := q_in hn20 (by decide)
        have e70 : ∀ v : Int32, (mSend (mAdd m n a (nI t2)) A.length 1 (nI n) v) 7 0 = nI n := fun v => n1
        refine ⟨nI n, mSend (mset (mAdd m n a (nI t2)) 7 0 (nI (n + 1))) A.length 1 (nI n) (nI (d + (a + 1))), fun Q2 hq => ?_, Or.inl ⟨rfl, fun Q QX hq => ?_⟩⟩
        · refine sm_house_y ha (b1 (sm_title_y ht2 (b1 (bn (by rw [n1]; intro e; exact hn (q_inj (by omega) (by decide) e)) (sm_holds0 (b0 ?_))))))
          have e7 : mset m 23 0 0 7 0 = nI n := n1
          rw [e7]
          refine ⟨hin, ?_⟩
          rw [q_cl (by omega)]
          rintro m1 rfl
          rw [show mset (mset m 23 0 0) 0 n (nI a) 7 0 = nI n from n1]
          refine ⟨hin, ?_⟩
          rw [q_cl (by omega)]
          rintro m1 rfl
          rw [show mset (mset (mset m 23 0 0) 0 n (nI a)) 1 n (nI t2) 7 0 = nI n from n1]
          refine ⟨hin, ?_⟩
          rw [q_cl (by omega)]
          rintro m1 rfl
          rw [show mset (mset (mset (mset m 23 0 0) 0 n (nI a)) 1 n (nI t2)) 2 n (nI a) 7 0 = nI n from n1]
          refine ⟨hin, ?_⟩
          rw [q_cl (by omega)]
          rintro m1 rfl
          rw [show mset (mset (mset (mset (mset m 23 0 0) 0 n (nI a)) 1 n (nI t2)) 2 n (nI a)) 3 n (nI a) 7 0 = nI n from n1]
          refine ⟨hin, ?_⟩
          rw [q_cl (by omega)]
          rintro m1 rfl
          rw [show mset (mset (mset (mset (mset (mset m 23 0 0) 0 n (nI a)) 1 n (nI t2)) 2 n (nI a)) 3 n (nI a)) 4 n (-1) 7 0 = nI n from n1]
          refine ⟨hin, ?_⟩
          rw [q_cl (by omega)]
          rintro m1 rfl
          rw [show mset (mset (mset (mset (mset (mset (mset m 23 0 0) 0 n (nI a)) 1 n (nI t2)) 2 n (nI a)) 3 n (nI a)) 4 n (-1)) 5 n (-1) 7 0 = nI n from n1]
          refine sm_tell (m := mAdd m n a (nI t2)) (by omega) (a := a) (by show upd (m 0) n (nI a) n = _; exact upd_s _ _ _) ?_
          refine sm_send (u := A.length) (d := d) hM.1 (by have := hM.2.1; omega) d1 ?_
          rintro m2 rfl
          rw [e70, nI_1, msend_comm]
          rw [show mSend (mset (mAdd m n a (nI t2)) 7 0 (nI (n + 1))) A.length 1 (nI n) (nI (d + (a + 1))) 7 0 = nI (n + 1) by show upd (m 7) 0 (nI (n + 1)) 0 = _; exact upd_s _ _ _, nI_pred]
          exact hq
        · refine sx_house_y ha (b1 (sx_title_y ht2 (b1 ?_)))
          rw [n2]
          refine bn (q_nn (by omega)) (bi (by rw [show (20 : Int32) = nI 20 from rfl, q_lt (by omega) (by omega)]; omega) ⟨by decide, fun q hq0 _ => ?_⟩)
          rintro k13 rfl k1 rfl k2 rfl k3 rfl k4 rfl k5 rfl k6 rfl k7 rfl k8 rfl
          refine ⟨hin, ?_⟩
          rw [q_cl (by omega), nI_1]
          rintro k18 rfl k19 rfl
          refine sx_house_y ha (b1 ⟨q_in ha (by decide), q_in ha (by decide), ?_⟩)
          rw [q_cl (by omega)]
          rintro k21 rfl
          obtain ⟨hcore1, harr⟩ := core_add (t2 := t2) hcore hq0 hn20 ha
          have hQA : ∀ a, a ∈ QC → a ∈ A := fun a ha => (hM.2.2.2.1 a ha).1
          have hS1 : Srt (kAdd k q n a (nI t2)) A QC d A.length := srt_arr hS (fun x hx => by
            rw [harr]
            show (if x = q then 0 else arr k x) = arr k x
            exact if_neg (show ¬ x = q from fun e => (core_mem hcore hx).1 (e ▸ hq0))) hQA
          have hcore2 : Core (kAdd k q n a (nI t2)) (mset (mAdd m n a (nI t2)) 7 0 (nI (n + 1))) (n + 1) r d (fun i => if i = n then q else ca i) ra A QC (UB t) (EB (c + 1) t) := by
            obtain ⟨g1, g2, g3, g4, g5, g6, g7, g8⟩ := hcore1
            exact ⟨g1, g2, g3, g4, g5, pA_mono g6 (EB_step c t (x := 0) (by omega)), g7, g8⟩
          obtain ⟨s6, s5⟩ := rel_send (S0 := S0) (c1 := q) (kind := 0) (x := 1) (y := nI n) (w := a + 1) (a4 := none) hcore2 hS1 hL1 hL2 hL3 hL4 hc (by omega) (Or.inl ⟨rfl, n, by omega, rfl, (if_pos rfl).symm, Or.inl ⟨rfl, rfl⟩⟩) (fun q' e => (nomatch e)) (fun _ _ _ e => (nomatch e))
          refine sx_news (k := kAdd k q n a (nI t2)) (a := a) ?_ (s5 (fun _ k1 => Q (nI n) k1) hq)
          show upd (upd (k.1 11) q 0) q (nI a) q = _
          exact upd_s _ _ _
    · refine ⟨-1, mset m 23 0 1, fun Q2 hq => ?_, Or.inr (Or.inl ⟨rfl, fun Q QX hq => ?_⟩)⟩
      · exact sm_house_y ha (b1 (sm_title_n hp (b0 (sm_holds1 (b1 hq)))))
      · exact sx_house_y ha (b1 (sx_title_n hp (b0 ⟨by decide, hq k (rel_thr h 1)⟩)))
  · refine ⟨-1, mset m 23 0 1, fun Q2 hq => ?_, Or.inr (Or.inl ⟨rfl, fun Q QX hq => ?_⟩)⟩
    · exact sm_house_n hp (b0 (sm_holds1 (b1 hq)))
    · exact sx_house_n hp (b0 ⟨by decide, hq k (rel_thr h 1)⟩)
