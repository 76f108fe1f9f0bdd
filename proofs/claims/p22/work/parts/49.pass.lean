/-! PURE: days pass -/
theorem sx_quarter {S0 : Nat} {k : kS} {Q : kS → Prop} (hQ : ∀ f : Nat → Int32, (∀ j, j < 6 → f j = 0) → Q (kcol k 6 f)) : wX0_beginQuarter S0 k Q := by
  have loop : ∀ (y x : Nat) (f : Nat → Int32), x + y = 6 → (∀ j, j < x → f j = 0) → wX0_beginQuarter_l2 S0 Q (y + 1) (nI x) (kcol k 6 f) := by
    intro y
    induction y with
    | zero =>
      intro x f hxy hf
      obtain rfl : x = 6 := by omega
      unfold wX0_beginQuarter_l2
      exact bi (by decide) (hQ f hf)
    | succ y ih =>
      intro x f hxy hf
      unfold wX0_beginQuarter_l2
      refine bn (by rw [show (6 : Int32) = nI 6 from rfl, q_le (by omega) (by omega)]; omega) ⟨q_in (by omega) (by decide), ?_⟩
      rintro k6 rfl
      rw [q_cl (by omega), kset_kcol, nI_1]
      exact ih (x + 1) _ (by omega) (upd_z hf)
  have := loop 6 0 (k.1 6) rfl (fun j hj => by omega)
  rw [kcol_id] at this
  exact ⟨7, this⟩
def q90 (x : Int32) : Int32 := x - x / 90 * 90
def mZ (m : mS) (x : Nat) : mS := mcol m 21 (fun h => if h < x then 0 else m 21 h)
def mQ (m : mS) : mS := if q90 (m 22 0) = 0 then mZ m 6 else m
theorem mZ_0 (m : mS) : mZ m 0 = m := by
  have : (fun h => if h < 0 then (0 : Int32) else m 21 h) = m 21 := by funext j; rw [if_neg (by omega)]
  unfold mZ
  rw [this, mcol_id]
theorem mZ_s (m : mS) (x : Nat) : mset (mZ m x) 21 x 0 = mZ m (x + 1) := by
  unfold mZ
  rw [mset_mcol]
  congr 1
  funext j
  by_cases e : j = x
  · rw [e, upd_s, if_pos (by omega)]
  · rw [upd_n _ _ e]
    by_cases e2 : j < x
    · rw [if_pos e2, if_pos (by omega)]
    · rw [if_neg e2, if_neg (by omega)]
theorem sm_quarter {m : mS} {p1 xx s : Int32} {Q : Int32 → mS → Prop} {K : Int32 → Int32 → mS → Prop} (hq : wX6_arriveAll (mQ m) (fun r19 m20 => K (xx + 1) (s + r19) m20)) : wX6_pass_l47 p1 Q K 7 0 xx s m := by
  unfold mQ at hq
  by_cases h : q90 (m 22 0) = 0
  · rw [if_pos h] at hq
    have loop : ∀ (y x : Nat), x + y = 6 → wX6_pass_l47 p1 Q K (y + 1) (nI x) xx s (mZ m x) := by
      intro y
      induction y with
      | zero =>
        intro x hxy
        obtain rfl : x = 6 := by omega
        unfold wX6_pass_l47
        exact bi (by decide) hq
      | succ y ih =>
        intro x hxy
        unfold wX6_pass_l47
        refine bn (by rw [show (6 : Int32) = nI 6 from rfl, q_le (by omega) (by omega)]; omega) (bi h ⟨q_in (by omega) (by decide), ?_⟩)
        rintro m26 rfl
        rw [q_cl (by omega), mZ_s, nI_1]
        exact ih (x + 1) (by omega)
    have := loop 6 0 rfl
    rw [mZ_0] at this
    exact this
  · rw [if_neg h] at hq
    have loop : ∀ (y x : Nat), x + y = 6 → wX6_pass_l47 p1 Q K (y + 1) (nI x) xx s m := by
      intro y
      induction y with
      | zero =>
        intro x hxy
        obtain rfl : x = 6 := by omega
        unfold wX6_pass_l47
        exact bi (by decide) hq
      | succ y ih =>
        intro x hxy
        unfold wX6_pass_l47
        refine bn (by rw [show (6 : Int32) = nI 6 from rfl, q_le (by omega) (by omega)]; omega) (bn h ⟨q_in (by omega) (by decide), q_in (by omega) (by decide), ?_⟩)
        rintro m24 rfl
        rw [q_cl (by omega), ms_id, nI_1]
        exact ih (x + 1) (by omega)
    exact loop 6 0 rfl
theorem srt_next {k : kS} {A QC : List Nat} {d : Nat} (h : Srt k A QC d A.length) : Srt k A QC (d + 1) 0 := by
  obtain ⟨t1, t2, t3, t4⟩ := h
  refine ⟨t1, fun v hv => t2 v (by omega), ?_, fun a ha => ?_⟩
  · rw [List.drop_zero]
    exact t2 (d + 1) (by omega)
  · have h1 := t4 a ha
    by_cases e : arr k a = d
    · rw [List.drop_length, List.filter_nil, List.filter_eq_nil_iff] at t3
      exact absurd (by simp only [beq_iff_eq]; exact e) (t3 a ha)
    · omega
theorem one_day {S0 c n r d t : Nat} {k : kS} {m : mS} {ca ra : Nat → Nat} {A QC : List Nat} (h : RD c k m n r d t ca ra A QC) (hd1 : d + 1 ≤ 51200) (Q : Int32 → kS → Prop) (hQ : ∀ (kE : kS) (m1 : mS) (v : Int32) (tE : Nat) (A1 QC1 : List Nat), RD c kE m1 n r (d + 1) tE ca ra A1 QC1 → Pot m1 r = Pot (dayF r A.length 0 (mQ (mset m 22 0 (nI (d + 1))))) r → m1 23 = m 23 → (∀ Q2 : Int32 → mS → Prop, Q2 v m1 → wX6_arriveAll (mQ (mset m 22 0 (nI (d + 1)))) Q2) → Q v kE) : wX5_arrivalsOfNextDay S0 (Pot m r - Pot (dayF r A.length 0 (mQ (mset m 22 0 (nI (d + 1))))) r) k Q := by
  obtain ⟨hcore, hS, hL1, hL3, hL4, hc⟩ := h
  have hcore' := hcore
  obtain ⟨⟨n1, n2, n3⟩, ⟨r1, r2, r3⟩, ⟨d1, d2, d3⟩, hC, hR, hA, hQ0, hM⟩ := hcore'
  have hW := hQ0.2.1
  have main : ∀ kx : kS, Core kx (mQ (mset m 22 0 (nI (d + 1)))) n r (d + 1) ca ra A QC (UB t) (EB c t) → arr kx = arr k → ∃ f, wX5_arrivalsOfNextDay_l39 S0 (Pot m r - Pot (dayF r A.length 0 (mQ (mset m 22 0 (nI (d + 1))))) r) Q f 0 0 (nI QC.length) 0 kx := by
    intro kx hcx harr
    have e10 : mQ (mset m 22 0 (nI (d + 1))) 10 = m 10 := by unfold mQ; split <;> rfl
    have e13 : mQ (mset m 22 0 (nI (d + 1))) 13 = m 13 := by unfold mQ; split <;> rfl
    have e23 : mQ (mset m 22 0 (nI (d + 1))) 23 = m 23 := by unfold mQ; split <;> rfl
    have ePot : Pot (mQ (mset m 22 0 (nI (d + 1)))) r = Pot m r := Pot_cg r (fun x _ => ⟨by rw [e10], by rw [e13]⟩)
    have hPd := Pot_day r A.length 0 (mQ (mset m 22 0 (nI (d + 1))))
    have hI : InD kx (mQ (mset m 22 0 (nI (d + 1)))) n r (d + 1) c t ca ra A QC 0 0 A.length QC.length := by
      refine ⟨hcx, srt_eq (srt_next hS) harr, ⟨Nat.zero_le _, Nat.le_refl _, by omega, Nat.le_refl _, hL1, hW⟩, by rw [e10]; exact hL4, fun x a hx ha => ?_, hc, by omega⟩
      rw [List.getElem?_eq_none hx] at ha
      cases ha
    refine ⟨QC.length + 1, ?_⟩
    refine day_loop A.length 0 0 kx _ t A QC (by omega) hI _ 0 (by omega) Q (fun kE tE AE QCE hE htE hRR => ?_) (QC.length + 1) (by omega)
    obtain ⟨m1, A1, g1, g2, g3, g4, g5⟩ := day_end hE (by omega) _ _ _ _ _ hRR
    refine hQ kE m1 _ tE A1 QCE g1 (Pot_cg r (fun x _ => ⟨by rw [g2], by rw [g3]⟩)) (by rw [g4, dayF_23, e23]) (fun Q2 hq => ⟨A.length + 1, ?_⟩)
    rw [hcx.2.2.2.2.2.2.2.1]
    exact g5 Q2 hq
  unfold wX5_arrivalsOfNextDay
  rw [d2, nI_1]
  rintro k1 rfl
  have e2 : (kset k 2 0 (nI (d + 1))).1 2 0 = nI (d + 1) := upd_s (k.1 2) 0 (nI (d + 1))
  have e22 : mset m 22 0 (nI (d + 1)) 22 0 = nI (d + 1) := upd_s (m 22) 0 (nI (d + 1))
  rw [e2]
  have hq90 : nI (d + 1) - nI (d + 1) / 90 * 90 = q90 (nI (d + 1)) := rfl
  rw [hq90]
  by_cases h0 : q90 (nI (d + 1)) = 0
  · refine bi h0 (sx_quarter (fun f hf => ?_))
    show ∃ f40, wX5_arrivalsOfNextDay_l39 S0 _ Q f40 0 0 (k.1 3 0) 0 (kcol (kset k 2 0 (nI (d + 1))) 6 f)
    rw [hQ0.1]
    refine main _ ?_ rfl
    have eQ : mQ (mset m 22 0 (nI (d + 1))) = mZ (mset m 22 0 (nI (d + 1))) 6 := by unfold mQ; rw [e22, if_pos h0]
    rw [eQ]
    refine ⟨⟨n1, n2, n3⟩, ⟨r1, r2, r3⟩, ⟨e22, e2, hd1⟩, hC, hR, ⟨hA.1, hA.2.1, hA.2.2.1, fun x hx => ?_⟩, hQ0, hM⟩
    show (kcol (kset k 2 0 (nI (d + 1))) 6 f).1 6 x = mcol (mset m 22 0 (nI (d + 1))) 21 (fun h => if h < 6 then 0 else mset m 22 0 (nI (d + 1)) 21 h) 21 x
    rw [kcol_s, mcol_s, hf x hx]
    exact (if_pos hx).symm
  · refine bn h0 ?_
    show ∃ f20, wX5_arrivalsOfNextDay_l39 S0 _ Q f20 0 0 (k.1 3 0) 0 (kset k 2 0 (nI (d + 1)))
    rw [hQ0.1]
    refine main _ ?_ rfl
    have eQ : mQ (mset m 22 0 (nI (d + 1))) = mset m 22 0 (nI (d + 1)) := by unfold mQ; rw [e22, if_neg h0]
    rw [eQ]
    exact ⟨⟨n1, n2, n3⟩, ⟨r1, r2, r3⟩, ⟨e22, e2, hd1⟩, hC, hR, hA, hQ0, hM⟩
theorem pass_loop {S0 c n r P : Nat} {ca ra : Nat → Nat} (hP : P ≤ 100) (B : Nat) (Q : Int32 → kS → Prop) (QX : String → kS → Prop) : ∀ (y x : Nat) (s : Int32) (k : kS) (m : mS) (d t nc : Nat) (A QC : List Nat), x + y = P → RD c k m n r d t ca ra A QC → d + y ≤ 51200 → nc + Pot m r ≤ B → (∀ (kE : kS) (mE : mS) (vE : Int32) (tE : Nat) (AE QCE : List Nat), RD c kE mE n r (d + y) tE ca ra AE QCE → mE 23 = m 23 → (∀ Q2 : Int32 → mS → Prop, Q2 vE mE → wX6_pass_l29 (nI P) Q2 (y + 1) (nI x) s m) → Q vE kE) → wX5_pass_l25 S0 B (nI P) Q QX (y + 1) (nI x) s nc k := by
  intro y
  induction y with
  | zero =>
    intro x s k m d t nc A QC hx hRD hd hB hQ
    obtain rfl : x = P := by omega
    unfold wX5_pass_l25
    refine ⟨by omega, fun _ => hQ k m s t A QC hRD rfl (fun Q2 hq => ?_), fun e => absurd ((q_le (by omega) (by omega)).mpr (Nat.le_refl _)) e⟩
    unfold wX6_pass_l29
    exact ⟨fun _ => hq, fun e => absurd ((q_le (by omega) (by omega)).mpr (Nat.le_refl _)) e⟩
  | succ y ih =>
    intro x s k m d t nc A QC hx hRD hd hB hQ
    have hne : ¬ nI P ≤ nI x := by rw [q_le (by omega) (by omega)]; omega
    have d1 : m 22 0 = nI d := hRD.1.2.2.1.1
    have hPd : Pot (dayF r A.length 0 (mQ (mset m 22 0 (nI (d + 1))))) r ≤ Pot m r := by
      refine Nat.le_trans (Pot_day r A.length 0 _) (Nat.le_of_eq (Pot_cg r (fun x _ => ?_)))
      unfold mQ
      split <;> exact ⟨rfl, rfl⟩
    unfold wX5_pass_l25
    refine ⟨by omega, bn hne ⟨_, ?_, one_day hRD (by omega) _ (fun kE m1 v tE A1 QC1 hR1 hp1 h23 hrun => ?_)⟩⟩
    · omega
    · rw [nI_1]
      refine ih (x + 1) (s + v) kE m1 (d + 1) tE _ A1 QC1 (by omega) hR1 (by omega) (by omega) (fun kE2 mE2 vE2 tE2 AE2 QCE2 g1 g2 g3 => ?_)
      rw [show d + 1 + y = d + (y + 1) by omega] at g1
      refine hQ kE2 mE2 vE2 tE2 AE2 QCE2 g1 (by rw [g2, h23]) (fun Q2 hq => ?_)
      unfold wX6_pass_l29
      rw [d1, nI_1]
      refine bn hne ?_
      rintro m12 rfl
      refine ⟨7, sm_quarter (hrun _ ?_)⟩
      rw [nI_1]
      exact g3 Q2 hq
theorem op_pass {S0 c : Nat} {k : kS} {m : mS} (p : Int32) (hc : c < 512) (h : Rel c k m) (Q : Int32 → kS → Prop) (QX : String → kS → Prop) (hQ : ∀ (k1 : kS) (v : Int32) (m1 : mS), Rel (c + 1) k1 m1 → m1 23 0 = 0 → (∀ Q2 : Int32 → mS → Prop, Q2 v m1 → wX6_pass m p Q2) → Q v k1) (hX : ∀ m1 : mS, Rel (c + 1) k m1 → m1 23 0 = 1 → (∀ Q2 : Int32 → mS → Prop, Q2 (-1) m1 → wX6_pass m p Q2) → QX "java/lang/IllegalArgumentException" k) : wX5_pass S0 601 k p Q QX := by
  have h' := h
  obtain ⟨n, r, d, t, ca, ra, A, QC, hcore, hS, hL1, hL2, hL3, hL4⟩ := h'
  have hr40 : r ≤ 40 := hcore.2.1.2.2
  have one : (1 : Int32) = nI 1 := rfl
  have hun : (100 : Int32) = nI 100 := rfl
  rcases q_rng p 101 (by decide) with ⟨P, hP, rfl⟩ | ⟨hp, -⟩
  · by_cases h0 : P = 0
    · subst h0
      refine ⟨fun _ => ⟨by omega, hX (mset m 23 0 1) (rel_thr h 1) rfl (fun Q2 hq => ?_)⟩, fun e => absurd (by decide) e⟩
      exact sm_betw_n (Or.inl (by decide)) (b0 (sm_holds1 (b1 hq)))
    · refine bn (by rw [one, q_lt (by omega) (by decide)]; omega) (bi (by rw [hun, q_le (by omega) (by decide)]; omega) ⟨P + 1, ?_⟩)
      have hpot := Pot_le (mset m 23 0 0) r
      have hR0 : RD c k (mset m 23 0 0) n r d t ca ra A QC := ⟨core_thr hcore (Nat.le_refl _) 0, hS, hL1, hL3, hL4, by omega⟩
      refine pass_loop (n := n) (r := r) (ca := ca) (ra := ra) (by omega) 601 Q QX P 0 0 k (mset m 23 0 0) d t 0 A QC (by omega) hR0 (by omega) (by omega) (fun kE mE vE tE AE QCE hE h23 hrun => ?_)
      refine hQ kE vE mE ?_ (by rw [h23]; rfl) (fun Q2 hq => ?_)
      · obtain ⟨g1, g2, g3, g4, g5, g6⟩ := hE
        obtain ⟨f1, f2, f3, f4, f5, f6, f7, f8⟩ := g1
        exact ⟨n, r, d + P, tE, ca, ra, AE, QCE, ⟨f1, f2, f3, f4, f5, pA_mono f6 (EB_step c tE (x := 0) (by omega)), f7, f8⟩, g2, g3, by omega, g4, by omega⟩
      · refine sm_betw_y (by rw [one, q_lt (by omega) (by decide)]; omega) (by rw [hun, q_lt (by decide) (by omega)]; omega) (b1 (sm_holds0 (b0 ⟨P + 1, hrun Q2 hq⟩)))
  · refine ⟨fun _ => ⟨by omega, ?_⟩, fun e1 => bn ?_ ⟨by omega, ?_⟩⟩
    · exact hX (mset m 23 0 1) (rel_thr h 1) rfl (fun Q2 hq => sm_betw_n (by
        rcases hp with hp | hp
        · refine Or.inl ?_
          rw [Int32.lt_iff_toInt_lt] at hp ⊢
          have e1 : (0 : Int32).toInt = 0 := rfl
          have e2 : (1 : Int32).toInt = 1 := rfl
          omega
        · exact (q_out (N := 100) (by decide) (Or.inr hp)).elim (fun e => Or.inl (by
            rw [Int32.lt_iff_toInt_lt] at e ⊢
            have e1 : (0 : Int32).toInt = 0 := rfl
            have e2 : (1 : Int32).toInt = 1 := rfl
            omega)) Or.inr) (b0 (sm_holds1 (b1 hq))))
    · intro e
      rw [hun] at e
      rcases hp with hp | hp
      · rw [Int32.lt_iff_toInt_lt] at hp e1
        have z1 : (0 : Int32).toInt = 0 := rfl
        have z2 : (1 : Int32).toInt = 1 := rfl
        omega
      · rw [Int32.le_iff_toInt_le, q_ti (by decide)] at e hp
        omega
    · exact hX (mset m 23 0 1) (rel_thr h 1) rfl (fun Q2 hq => sm_betw_n (by
        rcases hp with hp | hp
        · refine Or.inl ?_
          rw [Int32.lt_iff_toInt_lt] at hp ⊢
          have e1 : (0 : Int32).toInt = 0 := rfl
          have e2 : (1 : Int32).toInt = 1 := rfl
          omega
        · exact (q_out (N := 100) (by decide) (Or.inr hp)).elim (fun e => Or.inl (by
            rw [Int32.lt_iff_toInt_lt] at e ⊢
            have e1 : (0 : Int32).toInt = 0 := rfl
            have e2 : (1 : Int32).toInt = 1 := rfl
            omega)) Or.inr) (b0 (sm_holds1 (b1 hq))))
