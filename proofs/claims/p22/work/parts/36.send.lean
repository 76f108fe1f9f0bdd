/-! PURE: sending, on both sides -/
def mSend (m : mS) (u : Nat) (x y z : Int32) : mS := mset (mset (mset (mset m 16 u x) 17 u y) 18 u z) 19 0 (nI (u + 1))
theorem sm_send {m : mS} {u d w : Nat} {x y : Int32} {Q : Int32 → mS → Prop} (hu : m 19 0 = nI u) (hl : u < 4000) (hd : m 22 0 = nI d) (q : Q (nI (d + w)) (mSend m u x y (nI (d + w)))) : wX6_send m x y (nI w) Q := by
  unfold wX6_send
  rw [hu]
  refine ⟨q_in hl (by decide), ?_⟩
  rintro m2 rfl
  have e2 : mset m 16 (nI u).toNatClampNeg x 19 0 = nI u := hu
  rw [e2]
  refine ⟨q_in hl (by decide), ?_⟩
  rintro m4 rfl
  have e4 : mset (mset m 16 (nI u).toNatClampNeg x) 17 (nI u).toNatClampNeg y 19 0 = nI u := hu
  rw [e4]
  refine ⟨q_in hl (by decide), ?_⟩
  rw [q_cl (by omega)]
  rintro m6 rfl m7 rfl
  have e6 : mset (mset m 16 u x) 17 u y 22 0 = nI d := hd
  have e7 : mset (mset (mset m 16 u x) 17 u y) 18 u (mset (mset m 16 u x) 17 u y 22 0 + nI w) 19 0 = nI u := hu
  rw [e7, e6, nI_add, nI_1]
  have e8 : mset (mset (mset (mset m 16 u x) 17 u y) 18 u (nI (d + w))) 19 0 (nI (u + 1)) 22 0 = nI d := hd
  rw [e8, nI_add]
  exact q
def Sent1 (k k' : kS) (q : Nat) (kind z : Int32) (c : Nat) (a4 : Option Nat) : Prop :=
  k.2.2 q = 0 ∧ (∀ a, a < 10 → a ≠ 3 → k'.1 a = k.1 a) ∧ (∀ a x, 10 ≤ a → x ≠ q → k'.1 a x = k.1 a x) ∧ (∀ a, a < 2 → k'.2.1 a = k.2.1 a) ∧ (∀ a x, 10 ≤ a → x ≠ q → k'.2.1 a x = k.2.1 a x) ∧ (∀ x, x ≠ q → k'.2.2 x = k.2.2 x) ∧ k'.2.2 q = 4 ∧ k'.1 30 q = kind ∧ k'.1 31 q = z ∧ k'.2.1 32 q = some c ∧ k'.2.1 33 q = a4
def Ins (f : Nat → Nat) (q : Nat) (QC QC' : List Nat) : Prop := ∃ x, x ≤ QC.length ∧ QC' = QC.take x ++ q :: QC.drop x ∧ (∀ j, x ≤ j → ∀ a, QC[j]? = some a → f q < f a) ∧ (x = 0 ∨ ∃ a, QC[x - 1]? = some a ∧ f a ≤ f q)
theorem Ins.perm {f : Nat → Nat} {q : Nat} {QC QC' : List Nat} (h : Ins f q QC QC') : QC'.Perm (q :: QC) := by
  obtain ⟨x, -, rfl, -⟩ := h
  have := List.perm_middle (a := q) (l₁ := QC.take x) (l₂ := QC.drop x)
  rw [List.take_append_drop] at this
  exact this
theorem Ins.len {f : Nat → Nat} {q : Nat} {QC QC' : List Nat} (h : Ins f q QC QC') : QC'.length = QC.length + 1 := by
  rw [h.perm.length_eq, List.length_cons]
theorem Ins.mem {f : Nat → Nat} {q : Nat} {QC QC' : List Nat} (h : Ins f q QC QC') {a : Nat} : a ∈ QC' ↔ a = q ∨ a ∈ QC := by
  rw [h.perm.mem_iff, List.mem_cons]
theorem Ins.sorted {f : Nat → Nat} {q : Nat} {QC QC' : List Nat} (h : Ins f q QC QC') (hp : QC.Pairwise (fun a b => f a ≤ f b)) : QC'.Pairwise (fun a b => f a ≤ f b) := by
  obtain ⟨x, hx, rfl, h1, h2⟩ := h
  have hp' := hp
  rw [← List.take_append_drop x QC, List.pairwise_append] at hp'
  obtain ⟨p1, p2, p3⟩ := hp'
  have hgt : ∀ b, b ∈ QC.drop x → f q < f b := by
    intro b hb
    obtain ⟨j, hj⟩ := List.mem_iff_getElem?.mp hb
    rw [List.getElem?_drop] at hj
    exact h1 (x + j) (by omega) b hj
  have hle : ∀ a, a ∈ QC.take x → f a ≤ f q := by
    intro a ha
    obtain ⟨i, hi⟩ := List.mem_iff_getElem?.mp ha
    rw [List.getElem?_take] at hi
    by_cases hix : i < x
    · rw [if_pos hix] at hi
      rcases h2 with h2 | ⟨b, hb, hbq⟩
      · omega
      · by_cases e : i = x - 1
        · rw [e, hb] at hi
          cases hi
          exact hbq
        · have h3 := List.pairwise_iff_getElem.mp hp i (x - 1) (by omega) (by omega) (by omega)
          have e1 : QC[i]'(by omega) = a := by
            have := List.getElem?_eq_getElem (l := QC) (i := i) (by omega)
            rw [this] at hi; exact Option.some.inj hi
          have e2 : QC[x - 1]'(by omega) = b := by
            have := List.getElem?_eq_getElem (l := QC) (i := x - 1) (by omega)
            rw [this] at hb; exact Option.some.inj hb
          rw [e1, e2] at h3
          omega
    · rw [if_neg hix] at hi
      cases hi
  rw [List.pairwise_append]
  refine ⟨p1, List.pairwise_cons.mpr ⟨fun b hb => Nat.le_of_lt (hgt b hb), p2⟩, fun a ha b hb => ?_⟩
  rcases List.mem_cons.mp hb with rfl | hb
  · exact hle a ha
  · exact p3 a ha b hb
theorem Ins.filt {f : Nat → Nat} {q : Nat} {QC QC' : List Nat} (h : Ins f q QC QC') (v : Nat) : QC'.filter (fun a => f a == v) = QC.filter (fun a => f a == v) ++ (if f q = v then [q] else []) := by
  obtain ⟨x, hx, rfl, h1, h2⟩ := h
  have hgt : ∀ b, b ∈ QC.drop x → f q < f b := by
    intro b hb
    obtain ⟨j, hj⟩ := List.mem_iff_getElem?.mp hb
    rw [List.getElem?_drop] at hj
    exact h1 (x + j) (by omega) b hj
  have e : QC.filter (fun a => f a == v) = (QC.take x).filter (fun a => f a == v) ++ (QC.drop x).filter (fun a => f a == v) := by
    rw [← List.filter_append, List.take_append_drop]
  rw [e, List.filter_append, List.filter_cons]
  by_cases hv : f q = v
  · have e2 : (QC.drop x).filter (fun a => f a == v) = [] := by
      rw [List.filter_eq_nil_iff]
      intro b hb
      have := hgt b hb
      simp only [beq_iff_eq]
      omega
    rw [if_pos hv, if_pos (by simp only [beq_iff_eq]; exact hv), e2, List.append_nil]
  · rw [if_neg hv, if_neg (by simp only [beq_iff_eq]; exact hv), List.append_nil]
theorem sx_send {S0 : Nat} {k : kS} {QC : List Nat} {d w c : Nat} {kind : Int32} {a4 : Option Nat} {Q : Int32 → kS → Prop} (hp : pQ k QC) (hl : QC.length < 552) (hA : ∀ a, a ∈ QC → k.2.2 a ≠ 0 ∧ k.1 31 a = nI (arr k a) ∧ arr k a < 100000) (hd : k.1 2 0 = nI d) (hw : d + w < 100000)
    (hQ : ∀ (k' : kS) (q : Nat) (QC' : List Nat), Sent1 k k' q kind (nI (d + w)) c a4 → Ins (arr k') q QC QC' → pQ k' QC' → Q (nI (d + w)) k') : wX5_send S0 k kind (nI w) c a4 Q := by
  have main : ∀ (q : Nat) (k10 : kS), k.2.2 q = 0 → k10 = kptr (kptr (kset (kset (knew k q 4) 30 q kind) 31 q (nI (d + w))) 32 q (some c)) 33 q a4 → wX2_put S0 k10 q (fun k12 => Q (nI (d + w)) k12) := by
    intro q k10 hq0 hk
    have hne : ∀ a, a ∈ QC → a ≠ q := fun a ha e => (hA a ha).1 (e ▸ hq0)
    have c31 : ∀ a, a ≠ q → k10.1 31 a = k.1 31 a := by
      intro a ha
      rw [hk]
      show upd (upd (k.1 31) q 0) q (nI (d + w)) a = _
      rw [upd_n _ _ ha, upd_n _ _ ha]
    have q31 : k10.1 31 q = nI (d + w) := by
      rw [hk]
      exact upd_s _ _ _
    have harr : ∀ a, a ∈ QC → arr k10 a = arr k a := by
      intro a ha
      unfold arr
      rw [c31 a (hne a ha)]
    have harrq : arr k10 q = d + w := by
      unfold arr
      rw [q31]; exact q_cl (by omega)
    have hp10 : pQ k10 QC := by rw [hk]; exact hp
    refine sx_put hp10 hl (fun a ha => ?_) ⟨by rw [harrq]; exact q31, by omega⟩ (fun k' x hx hs hp' h1 h2 => hQ k' q _ ?_ ?_ hp')
    · rw [harr a ha, c31 a (hne a ha)]
      exact (hA a ha).2
    · obtain ⟨s1, s2, s3⟩ := hs
      refine ⟨hq0, fun a ha h3 => ?_, fun a x ha hx => ?_, fun a ha => ?_, fun a x ha hx => ?_, fun x hx => ?_, ?_, ?_, ?_, ?_, ?_⟩
      · rw [s1 a h3, hk]
        show (if a = 31 then _ else if a = 30 then _ else if 10 ≤ a then _ else k.1 a) = _
        rw [if_neg (by omega), if_neg (by omega), if_neg (by omega)]
      · rw [s1 a (by omega), hk]
        have e1 : (kset (kset (knew k q 4) 30 q kind) 31 q (nI (d + w))).1 a x = k.1 a x := by
          rw [ks_n _ _ _ _ hx, ks_n _ _ _ _ hx]
          show (if 10 ≤ a then upd (k.1 a) q 0 else k.1 a) x = _
          rw [if_pos ha, upd_n _ _ hx]
        exact e1
      · rw [s2 a (by omega), hk]
        show (if a = 33 then _ else if a = 32 then _ else if 10 ≤ a then _ else k.2.1 a) = _
        rw [if_neg (by omega), if_neg (by omega), if_neg (by omega)]
      · rw [s2 a (by omega), hk]
        show (if a = 33 then va_up (if a = 32 then va_up (if 10 ≤ a then va_up (k.2.1 a) q none else k.2.1 a) q (some c) else (if 10 ≤ a then va_up (k.2.1 a) q none else k.2.1 a)) q a4 else (if a = 32 then va_up (if 10 ≤ a then va_up (k.2.1 a) q none else k.2.1 a) q (some c) else (if 10 ≤ a then va_up (k.2.1 a) q none else k.2.1 a))) x = _
        rw [if_pos ha]
        by_cases e1 : a = 33
        · rw [if_pos e1, va_up_ne _ _ hx, if_neg (by omega), va_up_ne _ _ hx]
        · rw [if_neg e1]
          by_cases e2 : a = 32
          · rw [if_pos e2, va_up_ne _ _ hx, va_up_ne _ _ hx]
          · rw [if_neg e2, va_up_ne _ _ hx]
      · rw [s3, hk]
        exact va_up_ne _ _ hx
      · rw [s3, hk]
        exact va_up_self _ _ _
      · rw [s1 30 (by decide), hk]
        exact upd_s _ _ _
      · rw [s1 31 (by decide)]
        exact q31
      · rw [s2 32 (by decide), hk]
        exact va_up_self _ _ _
      · rw [s2 33 (by decide), hk]
        exact va_up_self _ _ _
    · have harr' : arr k' = arr k10 := by
        funext a
        unfold arr
        rw [hs.1 31 (by decide)]
      rw [harr']
      exact ⟨x, hx, rfl, h1, h2⟩
  unfold wX5_send
  rw [hd, nI_add]
  refine ⟨fun e => ⟨by decide, fun q hq _ => ?_⟩, fun o1 e => ⟨by decide, fun q hq _ => ?_⟩⟩
  · rintro k7 rfl
    refine ⟨fun _ => ?_, fun o e2 => (nomatch e2)⟩
    rintro k3 rfl k4 rfl k5 rfl k6 rfl
    exact main q _ hq (by rw [e])
  · rintro k7 rfl
    refine ⟨fun e2 => (nomatch e2), fun o e2 => ?_⟩
    rintro k3 rfl k4 rfl k5 rfl k6 rfl
    cases e2
    exact main q _ hq (by rw [e])
theorem mRow_cg {k k' : kS} {n r : Nat} {ca ra : Nat → Nat} {a : Nat} {x y z : Int32} (h : mRow k n r ca ra a x y z) (h1 : k'.2.2 a = k.2.2 a) (h2 : k'.1 30 a = k.1 30 a) (h3 : k'.1 31 a = k.1 31 a) (h4 : k'.2.1 32 a = k.2.1 32 a) (h5 : k'.2.1 33 a = k.2.1 33 a) : mRow k' n r ca ra a x y z := by
  unfold mRow at h ⊢
  rw [h1, h2, h3, h4, h5]
  exact h
/-- what a message may be about -/
def mOK (n r : Nat) (ca ra : Nat → Nat) (x y kind : Int32) (c : Nat) (a4 : Option Nat) : Prop :=
  (a4 = none ∧ ∃ i, i < n ∧ y = nI i ∧ c = ca i ∧ ((x = 1 ∧ kind = 0) ∨ (x = 0 ∧ kind = 1))) ∨ (∃ i, i < r ∧ y = nI i ∧ a4 = some (ra i) ∧ ((x = 2 ∧ kind = 2) ∨ (x = 3 ∧ kind = 5) ∨ (x = 4 ∧ kind = 6) ∨ (x = 5 ∧ kind = 3) ∨ (x = 5 ∧ kind = 4)))
def lOK (k : kS) (kind : Int32) (c q : Nat) : Prop := (kind = 2 ∧ k.1 23 q = 0 ∧ some c = k.2.1 22 q) ∨ (kind = 3 ∧ k.1 23 q = 1 ∧ some c = k.2.1 22 q) ∨ (kind = 4 ∧ k.1 23 q = 3 ∧ some c = k.2.1 22 q) ∨ ((kind = 5 ∨ kind = 6) ∧ (k.1 23 q = 2 ∨ k.1 23 q = 3 ∨ k.1 23 q = 4))
theorem q_clp {n : Nat} (h : n < 100000) : nI n = nI ((nI n).toNatClampNeg) := by rw [q_cl (by omega)]
theorem core_mem {k : kS} {m : mS} {n r d : Nat} {ca ra : Nat → Nat} {A QC : List Nat} {U E : Nat} (h : Core k m n r d ca ra A QC U E) {a : Nat} (ha : a ∈ A) : k.2.2 a ≠ 0 ∧ k.1 31 a = nI (arr k a) ∧ arr k a < 100000 := by
  obtain ⟨j, hj⟩ := List.mem_iff_getElem?.mp ha
  obtain ⟨h1, h2, ⟨v, hv, h3⟩, -⟩ := h.2.2.2.2.2.2.2.2.2.1 j a hj
  have e : arr k a = v := by unfold arr; rw [h3, q_cl (by omega)]
  exact ⟨by rw [h1]; decide, by rw [e, h3], by omega⟩
theorem core_send {k k' : kS} {m : mS} {n r d q c v : Nat} {ca ra : Nat → Nat} {A QC QC' : List Nat} {U E : Nat} {x y kind : Int32} {a4 : Option Nat} (h : Core k m n r d ca ra A QC U E) (hs : Sent1 k k' q kind (nI v) c a4) (hi : Ins (arr k') q QC QC') (hq : pQ k' QC') (hv : v < 100000) (hl : A.length < 3000) (hok : mOK n r ca ra x y kind c a4) (hlive : ∀ q', a4 = some q' → lOK k kind c q') (hpair : ∀ b, b ∈ QC → ∀ q', a4 = some q' → k.2.1 33 b = some q' → (kind = 5 ∨ kind = 6 ∨ k.1 30 b = 5 ∨ k.1 30 b = 6)) :
    Core k' (mSend m A.length x y (nI v)) n r d ca ra (A ++ [q]) QC' U E := by
  have hcore := h
  obtain ⟨⟨n1, n2, n3⟩, ⟨r1, r2, r3⟩, ⟨d1, d2, d3⟩, hC, hR, hA, -, hM⟩ := h
  obtain ⟨s1, s2, s3, s4, s5, s6, s7, s8, s9, s10, s11⟩ := hs
  have hqA : ∀ a, a ∈ A → a ≠ q := fun a ha e => (core_mem hcore ha).1 (e ▸ s1)
  have hqc : ∀ i, i < n → ca i ≠ q := fun i hi e => by
    have := (hC.1 i hi).2.1
    rw [e, s1] at this
    exact absurd this (by decide)
  have hqr : ∀ i, i < r → ra i ≠ q := fun i hi e => by
    have := (hR.1 i hi).2.1
    rw [e, s1] at this
    exact absurd this (by decide)
  have hlive' : ∀ (b : Nat), b ∈ QC → lRow k' b := by
    intro b hb q' e
    obtain ⟨hbA, hbl⟩ := hM.2.2.2.1 b hb
    have hbq := hqA b hbA
    rw [s5 33 b (by decide) hbq] at e
    obtain ⟨j, hj⟩ := List.mem_iff_getElem?.mp hbA
    obtain ⟨-, -, -, hrow⟩ := hM.2.2.1 j b hj
    have hq' : q' ≠ q := by
      rcases hrow with ⟨e1, -⟩ | ⟨i, c2, hi, -, e1, -⟩
      · rw [e1] at e; cases e
      · rw [e1] at e
        cases e
        exact hqr i hi
    have := hbl q' e
    rw [s3 30 b (by decide) hbq, s3 23 q' (by decide) hq', s5 32 b (by decide) hbq, s5 22 q' (by decide) hq']
    exact this
  refine ⟨⟨n1, ?_, n3⟩, ⟨r1, ?_, r3⟩, ⟨d1, ?_, d3⟩, ?_, ?_, ?_, hq, ?_⟩
  · rw [s2 0 (by decide) (by decide)]; exact n2
  · rw [s2 1 (by decide) (by decide)]; exact r2
  · rw [s2 2 (by decide) (by decide)]; exact d2
  · refine pC_cg hC (s4 0 (by decide)) (fun i hi => s6 _ (hqc i hi)) (fun a h1 h2 i hi => s3 a _ h1 (hqc i hi)) (fun a ha => ?_)
    show (if a = 19 then _ else if a = 18 then _ else if a = 17 then _ else if a = 16 then _ else m a) = _
    rw [if_neg (by omega), if_neg (by omega), if_neg (by omega), if_neg (by omega)]
  · refine pR_cg hR (Nat.le_refl _) (s4 1 (by decide)) (fun i hi => s6 _ (hqr i hi)) (fun i hi => s5 22 _ (by decide) (hqr i hi)) (fun a h1 h2 i hi => s3 a _ (by omega) (hqr i hi)) (fun a h1 h2 => ?_)
    show (if a = 19 then _ else if a = 18 then _ else if a = 17 then _ else if a = 16 then _ else m a) = _
    rw [if_neg (by omega), if_neg (by omega), if_neg (by omega), if_neg (by omega)]
  · unfold pA
    rw [s2 4 (by decide) (by decide), s2 5 (by decide) (by decide), s2 6 (by decide) (by decide)]
    exact hA
  · obtain ⟨m1, m2, m3, m4, m5, m6⟩ := hM
    refine ⟨?_, ?_, fun j a hj => ?_, fun a ha => ?_, ?_, ?_⟩
    · rw [List.length_append, List.length_singleton]
      show upd (m 19) 0 (nI (A.length + 1)) 0 = _
      exact upd_s _ _ _
    · rw [List.length_append, List.length_singleton]; omega
    · by_cases hjl : j < A.length
      · rw [List.getElem?_append_left hjl] at hj
        have haA : a ∈ A := List.mem_of_getElem? hj
        have haq := hqA a haA
        have e : ∀ b, b = 16 ∨ b = 17 ∨ b = 18 → mSend m A.length x y (nI v) b j = m b j := by
          intro b hb
          show mset (mset (mset (mset m 16 A.length x) 17 A.length y) 18 A.length (nI v)) 19 0 (nI (A.length + 1)) b j = _
          rw [ms_c _ _ _ _ (show b ≠ 19 by omega), ms_n _ _ _ _ (by omega), ms_n _ _ _ _ (by omega), ms_n _ _ _ _ (by omega)]
        rw [e 16 (Or.inl rfl), e 17 (Or.inr (Or.inl rfl)), e 18 (Or.inr (Or.inr rfl))]
        exact mRow_cg (m3 j a hj) (s6 a haq) (s3 30 a (by decide) haq) (s3 31 a (by decide) haq) (s5 32 a (by decide) haq) (s5 33 a (by decide) haq)
      · rw [List.getElem?_append_right (by omega)] at hj
        have hj0 : j = A.length := by
          have := (List.getElem?_eq_some_iff.mp hj).1
          rw [List.length_singleton] at this
          omega
        rw [hj0, Nat.sub_self] at hj
        cases hj
        have e16 : mSend m A.length x y (nI v) 16 j = x := by rw [hj0]; exact upd_s _ _ _
        have e17 : mSend m A.length x y (nI v) 17 j = y := by rw [hj0]; exact upd_s _ _ _
        have e18 : mSend m A.length x y (nI v) 18 j = nI v := by rw [hj0]; exact upd_s _ _ _
        rw [e16, e17, e18]
        refine ⟨s7, s9.symm, ⟨v, hv, s9⟩, ?_⟩
        rw [s8, s10, s11]
        rcases hok with ⟨o1, i, o2, o3, o4, o5⟩ | ⟨i, o1, o2, o3, o4⟩
        · exact Or.inl ⟨o1, i, o2, o3, by rw [o4], o5⟩
        · exact Or.inr ⟨i, c, o1, o2, o3, rfl, o4⟩
    · rcases hi.mem.mp ha with rfl | ha
      · refine ⟨List.mem_append_right _ List.mem_cons_self, fun q' e => ?_⟩
        rw [s11] at e
        have hq' : q' ≠ a := by
          rcases hok with ⟨o1, -⟩ | ⟨i, o1, o2, o3, o4⟩
          · rw [o1] at e; cases e
          · rw [o3] at e
            cases e
            exact hqr i o1
        have := hlive q' e
        unfold lOK at this
        rw [s8, s10, s3 23 q' (by decide) hq', s5 22 q' (by decide) hq']
        exact this
      · exact ⟨List.mem_append_left _ (m4 a ha).1, hlive' a ha⟩
    · have hsym : ∀ {x y : Nat}, lPair k' x y → lPair k' y x := by
        intro x y h q' e1 e2
        rcases h q' e2 e1 with h | h | h | h
        · exact Or.inr (Or.inr (Or.inl h))
        · exact Or.inr (Or.inr (Or.inr h))
        · exact Or.inl h
        · exact Or.inr (Or.inl h)
      rw [List.Perm.pairwise_iff hsym hi.perm, List.pairwise_cons]
      refine ⟨fun b hb q' e1 e2 => ?_, ?_⟩
      · have hbq := hqA b (m4 b hb).1
        rw [s11] at e1
        rw [s5 33 b (by decide) hbq] at e2
        have := hpair b hb q' e1 e2
        rw [s8, s3 30 b (by decide) hbq]
        exact this
      · refine List.Pairwise.imp_of_mem (fun {a b} ha hb h => ?_) m5
        have haq := hqA a (m4 a ha).1
        have hbq := hqA b (m4 b hb).1
        intro q'
        rw [s5 33 a (by decide) haq, s5 33 b (by decide) hbq, s3 30 a (by decide) haq, s3 30 b (by decide) hbq]
        exact h q'
    · rw [List.nodup_append]
      refine ⟨m6, List.nodup_cons.mpr ⟨List.not_mem_nil, List.nodup_nil⟩, fun a ha b hb => ?_⟩
      rw [List.mem_singleton] at hb
      rw [hb]
      exact hqA a ha
theorem srt_send {k k' : kS} {m : mS} {n r d q c v j : Nat} {ca ra : Nat → Nat} {A QC QC' : List Nat} {U E : Nat} {kind : Int32} {a4 : Option Nat} (h : Core k m n r d ca ra A QC U E) (hs : Sent1 k k' q kind (nI v) c a4) (hi : Ins (arr k') q QC QC') (hv : v < 100000) (hdv : d < v) (hj : j ≤ A.length) (hS : Srt k A QC d j) : Srt k' (A ++ [q]) QC' d j := by
  have hqA : ∀ a, a ∈ A → a ≠ q := fun a ha e => (core_mem h ha).1 (e ▸ hs.1)
  have hQA : ∀ a, a ∈ QC → a ∈ A := fun a ha => (h.2.2.2.2.2.2.2.2.2.2.1 a ha).1
  have harr : ∀ a, a ∈ A → arr k' a = arr k a := fun a ha => by
    unfold arr
    rw [hs.2.2.1 31 a (by decide) (hqA a ha)]
  have harrq : arr k' q = v := by
    unfold arr
    rw [hs.2.2.2.2.2.2.2.2.1, q_cl (by omega)]
  have hfil : ∀ (L : List Nat), (∀ a, a ∈ L → a ∈ A) → ∀ w, L.filter (fun a => arr k' a == w) = L.filter (fun a => arr k a == w) := by
    intro L hL w
    exact List.filter_congr (fun a ha => by rw [harr a (hL a ha)])
  obtain ⟨t1, t2, t3, t4⟩ := hS
  refine ⟨hi.sorted ?_, fun w hw => ?_, ?_, fun a ha => ?_⟩
  · exact List.Pairwise.imp_of_mem (fun {a b} ha hb h => by rw [harr a (hQA a ha), harr b (hQA b hb)]; exact h) t1
  · rw [hi.filt, hfil QC hQA, t2 w hw, List.filter_append, hfil A (fun _ h => h), List.filter_cons]
    by_cases e : arr k' q = w
    · rw [if_pos e, if_pos (by simp only [beq_iff_eq]; exact e)]; rfl
    · rw [if_neg e, if_neg (by simp only [beq_iff_eq]; exact e)]; rfl
  · rw [hi.filt, hfil QC hQA, t3, List.drop_append_of_le_length hj, List.filter_append, hfil _ (fun a ha => List.mem_of_mem_drop ha), List.filter_cons, if_neg (by omega), if_neg (by simp only [beq_iff_eq]; omega)]
    rfl
  · rcases hi.mem.mp ha with rfl | ha
    · omega
    · rw [harr a (hQA a ha)]; exact t4 a ha
theorem srt_last {k : kS} {A QC : List Nat} {d q : Nat} (h : Srt k (A ++ [q]) QC d A.length) (hq : arr k q ≠ d) : Srt k (A ++ [q]) QC d (A ++ [q]).length := by
  refine ⟨h.1, h.2.1, ?_, h.2.2.2⟩
  rw [h.2.2.1, List.drop_left, List.drop_length, List.filter_cons, if_neg (by simp only [beq_iff_eq]; exact hq)]
