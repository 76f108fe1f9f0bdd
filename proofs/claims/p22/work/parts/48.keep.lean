/-! PURE: what is kept; a day begins -/
theorem mArr_23 (r : Nat) (m : mS) (x y : Int32) : mArr r m x y 23 = m 23 := by
  have h0 : mArr0 m x y 23 = m 23 := by
    unfold mArr0
    split
    · unfold mAns mAn
      split
      · rfl
      · exact mEnd_c _ _ _ _ _ _ (Or.inr (Or.inr rfl))
    · split
      · unfold mRen
        split <;> rfl
      · split
        · unfold mRec
          split
          · split <;> rfl
          · rfl
        · split
          · split
            · show mBill m _ _ _ 23 = _
              exact mBill_c _ _ _ _ (by decide) (by decide)
            · have ecol : ∀ i j z u d, mHom m i j z u d 23 = m 23 := by
                intro i j z u d
                unfold mHom
                split
                · show mFind (mH m i j z) j 23 = _
                  exact (mFind_c (mH m i j z) j (by decide) (by decide)).trans rfl
                · exact (mFind_c (mH m i j z) j (by decide) (by decide)).trans rfl
              exact ecol _ _ _ _ _
          · rfl
  unfold mArr
  split
  · exact h0
  · rfl
theorem dayF_23 (r : Nat) : ∀ (y j : Nat) (m : mS), dayF r y j m 23 = m 23 := by
  intro y
  induction y with
  | zero => intro j m; rfl
  | succ y ih =>
    intro j m
    show (if m 18 j = m 22 0 then dayF r y (j + 1) (mArr r m (m 16 j) (m 17 j)) else dayF r y (j + 1) m) 23 = _
    split
    · rw [ih, mArr_23]
    · exact ih _ _
theorem nodup_len : ∀ (L M : List Nat), L.Nodup → (∀ a, a ∈ L → a ∈ M) → L.length ≤ M.length := by
  intro L
  induction L with
  | nil => intro M _ _; exact Nat.zero_le _
  | cons a L ih =>
    intro M hn hs
    obtain ⟨h1, h2⟩ := List.nodup_cons.mp hn
    have ha : a ∈ M := hs a List.mem_cons_self
    have := ih (M.erase a) h2 (fun b hb => (List.mem_erase_of_ne (show b ≠ a from fun e => h1 (by rw [← e]; exact hb))).mpr (hs b (List.mem_cons_of_mem _ hb)))
    rw [List.length_erase_of_mem ha] at this
    have hp := List.length_pos_of_mem ha
    rw [List.length_cons]
    omega
theorem keep_loop {k : kS} {n r d N : Nat} {ca ra : Nat → Nat} {x9 v : Int32} (hN : N ≤ 3000) (hd : d < 1000000) : ∀ (rest : List Nat) (x : Nat) (L : List Nat) (mc : mS), x + rest.length = N → L.length ≤ x → (∀ j a, rest[j]? = some a → mRow k n r ca ra a (mc 16 (x + j)) (mc 17 (x + j)) (mc 18 (x + j))) → (∀ j a, L[j]? = some a → mRow k n r ca ra a (mc 16 j) (mc 17 j) (mc 18 j)) → mc 19 0 = nI N → mc 22 0 = nI d →
    ∃ m1 : mS, (∀ (K : Int32 → Int32 → Int32 → mS → Prop) (Q2 : Int32 → mS → Prop), Q2 v m1 → wX6_arriveAll_l57 Q2 K (rest.length + 1) (nI x) (nI L.length) x9 v mc) ∧ (∀ b, b < 16 ∨ 19 < b → m1 b = mc b) ∧ m1 19 0 = nI (L ++ rest.filter (fun a => decide (d < arr k a))).length ∧ (∀ j a, (L ++ rest.filter (fun a => decide (d < arr k a)))[j]? = some a → mRow k n r ca ra a (m1 16 j) (m1 17 j) (m1 18 j)) := by
  intro rest
  induction rest with
  | nil =>
    intro x L mc hx hL hr hl h19 h22
    have hxN : x = N := by simpa using hx
    refine ⟨mset mc 19 0 (nI L.length), fun K Q2 hq => ?_, fun b hb => ms_c _ _ _ _ (by omega), ?_, fun j a hj => ?_⟩
    · unfold wX6_arriveAll_l57
      rw [h19]
      refine ⟨fun _ => ?_, fun e => absurd ((q_le (by omega) (by omega)).mpr (by omega)) e⟩
      rintro m14 rfl
      exact hq
    · rw [List.filter_nil, List.append_nil]
      exact upd_s (mc 19) 0 (nI L.length)
    · rw [List.filter_nil, List.append_nil] at hj
      exact hl j a hj
  | cons a rest ih =>
    intro x L mc hx hL hr hl h19 h22
    rw [List.length_cons] at hx
    have h0 := hr 0 a rfl
    rw [Nat.add_zero] at h0
    obtain ⟨w, hw, e31⟩ := h0.2.2.1
    have earr : arr k a = w := by unfold arr; rw [e31, q_cl (by omega)]
    have e18 : mc 18 x = nI w := h0.2.1.trans e31
    have hxin : vp_in (nI x) 4000 := q_in (by omega) (by decide)
    have hLin : vp_in (nI L.length) 4000 := q_in (by omega) (by decide)
    have hne : ¬ nI N ≤ nI x := by rw [q_le (by omega) (by omega)]; omega
    by_cases hle : w ≤ d
    · have ef : (a :: rest).filter (fun a => decide (d < arr k a)) = rest.filter (fun a => decide (d < arr k a)) := by
        rw [List.filter_cons, if_neg (by simp only [decide_eq_true_eq]; omega)]
      obtain ⟨m1, g1, g2, g3, g4⟩ := ih (x + 1) L mc (by omega) (by omega) (fun j b hb => by
        have := hr (j + 1) b hb
        rw [show x + (j + 1) = x + 1 + j by omega] at this
        exact this) hl h19 h22
      rw [ef]
      refine ⟨m1, fun K Q2 hq => ?_, g2, g3, g4⟩
      unfold wX6_arriveAll_l57
      rw [h19, q_cl (show x < 1000000 by omega), e18, h22, nI_1]
      exact bn hne ⟨hxin, bi ((q_le (by omega) (by omega)).mpr hle) (g1 K Q2 hq)⟩
    · have ef : L ++ (a :: rest).filter (fun a => decide (d < arr k a)) = (L ++ [a]) ++ rest.filter (fun a => decide (d < arr k a)) := by
        rw [List.filter_cons, if_pos (by simp only [decide_eq_true_eq]; omega), List.append_assoc]
        rfl
      obtain ⟨mc2, hmc2⟩ : ∃ mm : mS, mm = mset (mset (mset mc 16 L.length (mc 16 x)) 17 L.length (mc 17 x)) 18 L.length (mc 18 x) := ⟨_, rfl⟩
      have c16 : ∀ j, mc2 16 j = if j = L.length then mc 16 x else mc 16 j := by
        intro j
        rw [hmc2]
        show upd (mc 16) L.length (mc 16 x) j = _
        by_cases e : j = L.length
        · rw [if_pos e, e, upd_s]
        · rw [if_neg e, upd_n _ _ e]
      have c17 : ∀ j, mc2 17 j = if j = L.length then mc 17 x else mc 17 j := by
        intro j
        rw [hmc2]
        show upd (mc 17) L.length (mc 17 x) j = _
        by_cases e : j = L.length
        · rw [if_pos e, e, upd_s]
        · rw [if_neg e, upd_n _ _ e]
      have c18 : ∀ j, mc2 18 j = if j = L.length then mc 18 x else mc 18 j := by
        intro j
        rw [hmc2]
        show upd (mc 18) L.length (mc 18 x) j = _
        by_cases e : j = L.length
        · rw [if_pos e, e, upd_s]
        · rw [if_neg e, upd_n _ _ e]
      obtain ⟨m1, g1, g2, g3, g4⟩ := ih (x + 1) (L ++ [a]) mc2 (by omega) (by rw [List.length_append, List.length_singleton]; omega) (fun j b hb => by
        have := hr (j + 1) b hb
        rw [show x + (j + 1) = x + 1 + j by omega] at this
        rw [c16, c17, c18, if_neg (by omega), if_neg (by omega), if_neg (by omega)]
        exact this) (fun j b hb => by
        rw [c16, c17, c18]
        by_cases e : j < L.length
        · rw [List.getElem?_append_left e] at hb
          rw [if_neg (by omega), if_neg (by omega), if_neg (by omega)]
          exact hl j b hb
        · rw [List.getElem?_append_right (by omega)] at hb
          have hj0 : j = L.length := by
            have := (List.getElem?_eq_some_iff.mp hb).1
            rw [List.length_singleton] at this
            omega
          rw [hj0, Nat.sub_self] at hb
          cases hb
          rw [if_pos hj0, if_pos hj0, if_pos hj0]
          exact h0) (by rw [hmc2]; exact h19) (by rw [hmc2]; exact h22)
      rw [ef]
      refine ⟨m1, fun K Q2 hq => ?_, fun b hb => ?_, g3, g4⟩
      · unfold wX6_arriveAll_l57
        rw [h19, q_cl (show x < 1000000 by omega), h22, nI_1, nI_1, q_cl (show L.length < 1000000 by omega)]
        refine bn hne ⟨hxin, bn (by rw [e18, q_le (by omega) (by omega)]; omega) ⟨hxin, hLin, ?_⟩⟩
        rintro m19 rfl
        refine ⟨hxin, hLin, ?_⟩
        rintro m22 rfl
        refine ⟨hxin, hLin, ?_⟩
        rintro m25 rfl
        have := g1 K Q2 hq
        rw [List.length_append, List.length_singleton, hmc2] at this
        exact this
      · rw [g2 b hb, hmc2]
        exact (ms_c _ _ _ _ (show b ≠ 18 by omega)).trans ((ms_c _ _ _ _ (show b ≠ 17 by omega)).trans (ms_c _ _ _ _ (show b ≠ 16 by omega)))
def RD (c : Nat) (k : kS) (m : mS) (n r d t : Nat) (ca ra : Nat → Nat) (A QC : List Nat) : Prop := Core k m n r d ca ra A QC (UB t) (EB c t) ∧ Srt k A QC d A.length ∧ A.length ≤ QC.length ∧ t ≤ 552 * d ∧ QC.length ≤ c + Gr (m 10) r ∧ c ≤ 512
/-- the end of a day -/
theorem day_end {k : kS} {m : mS} {n r d c t u0 W i : Nat} {ca ra : Nat → Nat} {A QC : List Nat} (h : InD k m n r d c t ca ra A QC u0 i u0 W) (ht : t ≤ 552 * d) (cE y j i0 : Nat) (m0 : mS) (hRR : RefRun u0 m cE y j i0 m0) :
    ∃ (m1 : mS) (A1 : List Nat), RD c k m1 n r d t ca ra A1 QC ∧ m1 10 = m 10 ∧ m1 13 = m 13 ∧ m1 23 = m 23 ∧ (∀ Q2 : Int32 → mS → Prop, Q2 (nI cE) m1 → wX6_arriveAll_l9 Q2 (y + 1) (nI j) (nI u0) (nI i0) m0) := by
  obtain ⟨hcore, hS, ⟨l1, l2, l3, l4, l5, l6⟩, hl, hbey, hc, ht2⟩ := h
  have hcore' := hcore
  obtain ⟨⟨n1, n2, n3⟩, ⟨r1, r2, r3⟩, ⟨d1, d2, d3⟩, hC, hR, hA, hQ0, hM⟩ := hcore'
  have hgt : ∀ a, a ∈ QC → d < arr k a := by
    intro a ha
    have h1 := hS.2.2.2 a ha
    by_cases e : arr k a = d
    · have h2 : a ∈ QC.filter (fun x => arr k x == d) := List.mem_filter.mpr ⟨ha, by simp only [beq_iff_eq]; exact e⟩
      rw [hS.2.2.1] at h2
      obtain ⟨h3, -⟩ := List.mem_filter.mp h2
      obtain ⟨x, hx⟩ := List.mem_iff_getElem?.mp h3
      rw [List.getElem?_drop] at hx
      have := hbey _ a (by omega) hx
      omega
    · omega
  have hN := hM.2.1
  obtain ⟨m1, g1, g2, g3, g4⟩ := keep_loop (k := k) (n := n) (r := r) (d := d) (N := A.length) (ca := ca) (ra := ra) (x9 := nI u0) (v := nI cE) hN (by omega) A 0 [] m (by omega) (Nat.le_refl _) (fun j a hj => by rw [Nat.zero_add]; exact hM.2.2.1 j a hj) (fun j a hj => by cases hj) hM.1 d1
  rw [List.nil_append] at g3 g4
  have mem1 : ∀ a, a ∈ A.filter (fun a => decide (d < arr k a)) ↔ a ∈ A ∧ d < arr k a := fun a => by rw [List.mem_filter]; simp only [decide_eq_true_eq]
  have hnd : (A.filter (fun a => decide (d < arr k a))).Nodup := List.Pairwise.filter _ hM.2.2.2.2.2
  have hlen : (A.filter (fun a => decide (d < arr k a))).length ≤ QC.length := by
    refine nodup_len _ _ hnd (fun a ha => ?_)
    obtain ⟨h1, h2⟩ := (mem1 a).mp ha
    have h3 : a ∈ A.filter (fun x => arr k x == arr k a) := List.mem_filter.mpr ⟨h1, by simp only [beq_iff_eq]⟩
    rw [← hS.2.1 _ h2] at h3
    exact (List.mem_filter.mp h3).1
  have e10 : m1 10 = m 10 := g2 10 (by omega)
  refine ⟨m1, A.filter (fun a => decide (d < arr k a)), ⟨⟨⟨by rw [g2 7 (by omega)]; exact n1, n2, n3⟩, ⟨by rw [g2 15 (by omega)]; exact r1, r2, r3⟩, ⟨by rw [g2 22 (by omega)]; exact d1, d2, d3⟩, ?_, ?_, ?_, hQ0, ⟨g3, ?_, g4, fun a ha => ⟨(mem1 a).mpr ⟨(hM.2.2.2.1 a ha).1, hgt a ha⟩, (hM.2.2.2.1 a ha).2⟩, hM.2.2.2.2.1, hnd⟩⟩, ⟨hS.1, fun v hv => ?_, ?_, fun a ha => Nat.le_of_lt (hgt a ha)⟩, hlen, ht, by rw [e10]; exact hl, hc⟩, e10, g2 13 (by omega), g2 23 (by omega), fun Q2 hq => ?_⟩
  · exact pC_cg hC rfl (fun _ _ => rfl) (fun _ _ _ _ _ => rfl) (fun a ha => g2 a (by omega))
  · exact pR_cg hR (Nat.le_refl _) rfl (fun _ _ => rfl) (fun _ _ => rfl) (fun _ _ _ _ _ => rfl) (fun a h1 h2 => g2 a (by omega))
  · unfold pA
    rw [g2 20 (by omega), g2 21 (by omega), g2 0 (by omega)]
    exact hA
  · exact Nat.le_trans (List.length_filter_le _ _) hN
  · rw [hS.2.1 v hv, List.filter_filter]
    refine List.filter_congr (fun a ha => ?_)
    by_cases e : arr k a = v
    · rw [show (arr k a == v) = true by simp only [beq_iff_eq]; exact e, show decide (d < arr k a) = true by simp only [decide_eq_true_eq]; omega]
      rfl
    · rw [show (arr k a == v) = false by simp only [beq_eq_false_iff_ne]; exact e]
      rfl
  · rw [List.drop_length, List.filter_nil, List.filter_eq_nil_iff]
    intro a ha
    simp only [beq_iff_eq]
    have := hgt a ha
    omega
  · exact hRR Q2 ⟨A.length + 1, g1 _ Q2 hq⟩
