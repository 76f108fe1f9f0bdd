/-! PURE: a day -/
theorem core_take {k k' : kS} {m : mS} {n r d a : Nat} {ca ra : Nat → Nat} {A QC : List Nat} {U E : Nat} (h : Core k m n r d ca ra A (a :: QC) U E) (hs : qSame k k') (hp : pQ k' QC) : Core k' m n r d ca ra A QC U E ∧ lRow k' a ∧ (∀ b, b ∈ QC → lPair k' a b) ∧ arr k' = arr k := by
  obtain ⟨⟨n1, n2, n3⟩, ⟨r1, r2, r3⟩, ⟨d1, d2, d3⟩, hC, hR, hA, hQ, hM⟩ := h
  obtain ⟨s1, s2, s3⟩ := hs
  have hl : ∀ b, lRow k b → lRow k' b := by
    intro b hb q
    rw [s2 33 (by decide), s1 30 (by decide), s1 23 (by decide), s2 32 (by decide), s2 22 (by decide)]
    exact hb q
  refine ⟨⟨⟨n1, by rw [s1 0 (by decide)]; exact n2, n3⟩, ⟨r1, by rw [s1 1 (by decide)]; exact r2, r3⟩, ⟨d1, by rw [s1 2 (by decide)]; exact d2, d3⟩, ?_, ?_, ?_, hp, ?_⟩, hl a (hM.2.2.2.1 a List.mem_cons_self).2, fun b hb q => ?_, ?_⟩
  · exact pC_cg hC (s2 0 (by decide)) (fun i _ => congrFun s3 _) (fun a h1 h2 i _ => congrFun (s1 a (by omega)) _) (fun _ _ => rfl)
  · exact pR_cg hR (Nat.le_refl _) (s2 1 (by decide)) (fun i _ => congrFun s3 _) (fun i _ => congrFun (s2 22 (by decide)) _) (fun a h1 h2 i _ => congrFun (s1 a (by omega)) _) (fun _ _ _ => rfl)
  · unfold pA
    rw [s1 4 (by decide), s1 5 (by decide), s1 6 (by decide)]
    exact hA
  · exact pM_live hM s3 (s1 30 (by decide)) (s1 31 (by decide)) (s2 32 (by decide)) (s2 33 (by decide)) (fun _ _ _ => rfl) (List.sublist_cons_self a QC) (fun b hb => hl b (hM.2.2.2.1 b (List.mem_cons_of_mem _ hb)).2)
  · rw [s2 33 (by decide), s1 30 (by decide)]
    exact (List.pairwise_cons.mp hM.2.2.2.2.1).1 b hb q
  · funext x
    unfold arr
    rw [s1 31 (by decide)]
theorem drop_get {A : List Nat} {j a : Nat} (h : A[j]? = some a) : A.drop j = a :: A.drop (j + 1) := by
  obtain ⟨h1, h2⟩ := List.getElem?_eq_some_iff.mp h
  rw [List.drop_eq_getElem_cons h1, h2]
theorem srt_skip {k : kS} {A QC : List Nat} {d j a : Nat} (h : Srt k A QC d j) (ha : A[j]? = some a) (hne : arr k a ≠ d) : Srt k A QC d (j + 1) := by
  obtain ⟨t1, t2, t3, t4⟩ := h
  refine ⟨t1, t2, ?_, t4⟩
  rw [t3, drop_get ha, List.filter_cons, if_neg (by simp only [beq_iff_eq]; exact hne)]
theorem srt_head {k : kS} {A QC : List Nat} {d j a : Nat} (h : Srt k A QC d j) (ha : A[j]? = some a) (he : arr k a = d) : ∃ QC1, QC = a :: QC1 ∧ Srt k A QC1 d (j + 1) := by
  obtain ⟨t1, t2, t3, t4⟩ := h
  rw [drop_get ha, List.filter_cons, if_pos (by simp only [beq_iff_eq]; exact he)] at t3
  cases QC with
  | nil => cases t3
  | cons b QC1 =>
    have hb : arr k b = d := by
      by_cases e : arr k b = d
      · exact e
      · have h1 := t4 b List.mem_cons_self
        have h2 : (b :: QC1).filter (fun x => arr k x == d) = [] := by
          rw [List.filter_eq_nil_iff]
          intro x hx
          simp only [beq_iff_eq]
          rcases List.mem_cons.mp hx with rfl | hx
          · exact e
          · have := (List.pairwise_cons.mp t1).1 x hx
            omega
        rw [h2] at t3
        cases t3
    rw [List.filter_cons, if_pos (by simp only [beq_iff_eq]; exact hb)] at t3
    obtain ⟨e1, e2⟩ := List.cons.inj t3
    subst e1
    refine ⟨QC1, rfl, (List.pairwise_cons.mp t1).2, fun v hv => ?_, e2, fun x hx => t4 x (List.mem_cons_of_mem _ hx)⟩
    rw [← t2 v hv, List.filter_cons, if_neg (by simp only [beq_iff_eq]; omega)]
def dayF (r : Nat) : Nat → Nat → mS → mS
  | 0, _, m => m
  | y + 1, j, m => if m 18 j = m 22 0 then dayF r y (j + 1) (mArr r m (m 16 j) (m 17 j)) else dayF r y (j + 1) m
def dayC (r : Nat) : Nat → Nat → mS → Nat
  | 0, _, _ => 0
  | y + 1, j, m => if m 18 j = m 22 0 then dayC r y (j + 1) (mArr r m (m 16 j) (m 17 j)) + 1 else dayC r y (j + 1) m
theorem Pot_day (r : Nat) : ∀ (y j : Nat) (m : mS), Pot (dayF r y j m) r ≤ Pot m r := by
  intro y
  induction y with
  | zero => intro j m; exact Nat.le_refl _
  | succ y ih =>
    intro j m
    show Pot (if m 18 j = m 22 0 then dayF r y (j + 1) (mArr r m (m 16 j) (m 17 j)) else dayF r y (j + 1) m) r ≤ _
    split
    · exact Nat.le_trans (ih _ _) (Pot_arr r m _ _)
    · exact ih _ _
def InD (k : kS) (m : mS) (n r d c t : Nat) (ca ra : Nat → Nat) (A QC : List Nat) (j i u0 W : Nat) : Prop :=
  Core k m n r d ca ra A QC (UB t) (EB c t) ∧ Srt k A QC d j ∧ (j ≤ u0 ∧ u0 ≤ A.length ∧ A.length ≤ u0 + 2 * i ∧ i ≤ j ∧ u0 ≤ W ∧ W ≤ 552) ∧ QC.length ≤ c + Gr (m 10) r ∧ (∀ x a, u0 ≤ x → A[x]? = some a → d < arr k a) ∧ c ≤ 512 ∧ t + (u0 - j) ≤ 28262400
def RefRun (u0 : Nat) (mE : mS) (cE y j i : Nat) (m : mS) : Prop := ∀ Q2 : Int32 → mS → Prop, (∃ f26 : Nat, wX6_arriveAll_l57 Q2 (fun u0 u1 u2 u3 => wX6_arriveAll_l9 Q2 0 u0 u1 u2 u3) f26 0 0 (nI u0) (nI cE) mE) → wX6_arriveAll_l9 Q2 (y + 1) (nI j) (nI u0) (nI i) m
theorem day_loop {S0 n r d c u0 W : Nat} {ca ra : Nat → Nat} : ∀ (y j i : Nat) (k : kS) (m : mS) (t : Nat) (A QC : List Nat), j + y = u0 → InD k m n r d c t ca ra A QC j i u0 W → ∀ (B nc : Nat), nc + Pot m r ≤ B + Pot (dayF r y j m) r → ∀ Q : Int32 → kS → Prop, (∀ (kE : kS) (tE : Nat) (AE QCE : List Nat), InD kE (dayF r y j m) n r d c tE ca ra AE QCE u0 (i + dayC r y j m) u0 W → tE ≤ t + y → RefRun u0 (dayF r y j m) (i + dayC r y j m) y j i m → Q (nI (i + dayC r y j m)) kE) → ∀ f5, W - i < f5 → wX5_arrivalsOfNextDay_l39 S0 B Q f5 (nI i) (nI i) (nI W) nc k := by
  intro y
  induction y with
  | zero =>
    intro j i k m t A QC hj hI B nc hB Q hQ f5 hf
    obtain rfl : j = u0 := by omega
    have hI' := hI
    obtain ⟨hcore, hS, ⟨l1, l2, l3, l4, l5, l6⟩, hl, hbey, hc, ht⟩ := hI'
    have hcore' := hcore
    obtain ⟨-, -, ⟨d1, d2, d3⟩, -, -, -, hQ0, hM⟩ := hcore'
    have hfin : Q (nI i) k := by
      refine hQ k t A QC hI (Nat.le_refl _) ?_
      intro Q2 hq
      unfold wX6_arriveAll_l9
      exact ⟨fun _ => hq, fun e => absurd ((q_le (by omega) (by omega)).mpr (Nat.le_refl _)) e⟩
    have hgt : ∀ a, a ∈ QC → d < arr k a := by
      intro a ha
      have h1 := hS.2.2.2 a ha
      by_cases e : arr k a = d
      · have h2 : a ∈ QC.filter (fun x => arr k x == d) := List.mem_filter.mpr ⟨ha, by simp only [beq_iff_eq]; exact e⟩
        rw [hS.2.2.1] at h2
        obtain ⟨h3, -⟩ := List.mem_filter.mp h2
        obtain ⟨x, hx⟩ := List.mem_iff_getElem?.mp h3
        rw [List.getElem?_drop] at hx
        have := hbey _ a (by omega) hx
        omega
      · omega
    obtain ⟨f, rfl⟩ : ∃ f, f5 = f + 1 := ⟨f5 - 1, by omega⟩
    have hB' : nc ≤ B := by
      have : Pot (dayF r 0 j m) r = Pot m r := rfl
      omega
    unfold wX5_arrivalsOfNextDay_l39
    refine ⟨hB', fun _ => hfin, fun _ => ?_⟩
    rw [d2]
    cases QC with
    | nil => exact sx_take_0 hQ0 (bN hfin)
    | cons b QC1 =>
      have hbm := core_mem hcore (hM.2.2.2.1 b List.mem_cons_self).1
      exact sx_take_n hQ0 hbm.2 (by omega) (hgt b List.mem_cons_self) (bN hfin)
  | succ y ih =>
    intro j i k m t A QC hj hI B nc hB Q hQ f5 hf
    have hI' := hI
    obtain ⟨hcore, hS, ⟨l1, l2, l3, l4, l5, l6⟩, hl, hbey, hc, ht⟩ := hI'
    have hcore' := hcore
    obtain ⟨-, -, ⟨d1, d2, d3⟩, -, -, -, hQ0, hM⟩ := hcore'
    have hjA : j < A.length := by omega
    obtain ⟨a, ha⟩ : ∃ a, A[j]? = some a := ⟨_, List.getElem?_eq_getElem hjA⟩
    have haA : a ∈ A := List.mem_of_getElem? ha
    have hrow := hM.2.2.1 j a ha
    have ham := core_mem hcore haA
    have e18 : m 18 j = nI (arr k a) := hrow.2.1.trans ham.2.1
    have hjin : vp_in (nI j) 4000 := q_in (by omega) (by decide)
    have hjne : ¬ nI u0 ≤ nI j := by rw [q_le (by omega) (by omega)]; omega
    by_cases he : m 18 j = m 22 0
    · have ead : arr k a = d := by
        rw [e18, d1] at he
        exact q_inj (by omega) (by omega) he
      have eF : dayF r (y + 1) j m = dayF r y (j + 1) (mArr r m (m 16 j) (m 17 j)) := if_pos he
      have eC : dayC r (y + 1) j m = dayC r y (j + 1) (mArr r m (m 16 j) (m 17 j)) + 1 := if_pos he
      rw [eF] at hB hQ
      rw [eC] at hQ
      obtain ⟨QC1, rfl, hS1⟩ := srt_head hS ha ead
      obtain ⟨f, rfl⟩ : ∃ f, f5 = f + 1 := ⟨f5 - 1, by omega⟩
      have hP1 := Pot_arr r m (m 16 j) (m 17 j)
      have hP2 := Pot_day r y (j + 1) (mArr r m (m 16 j) (m 17 j))
      unfold wX5_arrivalsOfNextDay_l39
      refine ⟨by omega, fun e => ?_, fun _ => ?_⟩
      · rw [q_le (by omega) (by omega)] at e
        omega
      · rw [d2]
        refine sx_take_y hQ0 ham.2 (by omega) (by omega) (fun k1 hs1 hp1 => bS ?_)
        obtain ⟨hcore1, hlr, hlp, harr1⟩ := core_take hcore hs1 hp1
        have hS1' := srt_eq hS1 harr1
        have hrow1 : mRow k1 n r ca ra a (m 16 j) (m 17 j) (m 18 j) := mRow_cg hrow (congrFun hs1.2.2 _) (congrFun (hs1.1 30 (by decide)) _) (congrFun (hs1.1 31 (by decide)) _) (congrFun (hs1.2.1 32 (by decide)) _) (congrFun (hs1.2.1 33 (by decide)) _)
        rw [List.length_cons] at hl
        have hUb : UB t < 1000000000 := by unfold UB; omega
        have hEb : EB c t ≤ 2000000000 := by unfold EB; omega
        obtain ⟨v6, vp, v5⟩ := arrive_both (S0 := S0) (k := k1) (m := m) (t := t) (c := c) (a := a) ⟨hcore1, by omega, hc, hEb, hl, hlr, hlp⟩ hUb hrow1
        refine ⟨bArr m (m 16 j) (m 17 j), by omega, v5 _ (fun k2 hD => ?_)⟩
        obtain ⟨X, QC', hcore2, hX, hl2, harr2, hgt2, hsrt2⟩ := hD
        rw [nI_1]
        have hI2 : InD k2 (mArr r m (m 16 j) (m 17 j)) n r d c (t + 1) ca ra (A ++ X) QC' (j + 1) (i + 1) u0 W := by
          refine ⟨hcore2, hsrt2 (j + 1) (by omega) hS1', ⟨by omega, by rw [List.length_append]; omega, by rw [List.length_append]; omega, by omega, l5, l6⟩, hl2, fun x b hx hb => ?_, hc, by omega⟩
          by_cases hxA : x < A.length
          · rw [List.getElem?_append_left hxA] at hb
            rw [harr2 b (List.mem_of_getElem? hb), harr1]
            exact hbey x b hx hb
          · rw [List.getElem?_append_right (by omega)] at hb
            exact hgt2 b (List.mem_of_getElem? hb)
        refine ih (j + 1) (i + 1) k2 _ (t + 1) (A ++ X) QC' (by omega) hI2 B (nc + bArr m (m 16 j) (m 17 j)) (by omega) Q (fun kE tE AE QCE hE htE hRR => ?_) f (by omega)
        have eidx : i + 1 + dayC r y (j + 1) (mArr r m (m 16 j) (m 17 j)) = i + (dayC r y (j + 1) (mArr r m (m 16 j) (m 17 j)) + 1) := by omega
        rw [eidx] at hE hRR ⊢
        refine hQ kE tE AE QCE hE (by omega) ?_
        intro Q2 hq
        unfold wX6_arriveAll_l9
        refine bn hjne ⟨hjin, ?_⟩
        rw [q_cl (by omega)]
        refine bi he ⟨hjin, hjin, v6 _ ?_⟩
        rw [nI_1, nI_1]
        exact hRR Q2 hq
    · have eF : dayF r (y + 1) j m = dayF r y (j + 1) m := if_neg he
      have eC : dayC r (y + 1) j m = dayC r y (j + 1) m := if_neg he
      rw [eF] at hB hQ
      rw [eC] at hQ
      have hne : arr k a ≠ d := fun e => he (by rw [e18, d1, e])
      refine ih (j + 1) i k m t A QC (by omega) ⟨hcore, srt_skip hS ha hne, ⟨by omega, l2, l3, by omega, l5, l6⟩, hl, hbey, hc, by omega⟩ B nc hB Q (fun kE tE AE QCE hE htE hRR => hQ kE tE AE QCE hE (by omega) ?_) f5 hf
      intro Q2 hq
      unfold wX6_arriveAll_l9
      refine bn hjne ⟨hjin, ?_⟩
      rw [q_cl (by omega)]
      refine bn he ?_
      rw [nI_1]
      exact hRR Q2 hq
