/-! PURE: asking the next home -/
abbrev may (m : mS) (i j : Nat) : Prop := (m 1 j = m 9 i ∧ m 4 j = 1 ∧ m 0 j ≠ m 8 i) ∧ ((m 13 i >>> (m 0 j &&& 31)) &&& 1) = 0
def hN (m : mS) (j : Nat) : Nat := (m 0 j).toNatClampNeg
def nstep (m : mS) (i w j : Nat) (o : Option Nat) : Option Nat :=
  if may m i j then (if o = none then some j else if wayN w (hN m j) < wayN w (hN m (o.getD 0)) then some j else o) else o
def nb (m : mS) (i w : Nat) : Nat → Option Nat
  | 0 => none
  | j + 1 => nstep m i w j (nb m i w j)
theorem nb_spec (m : mS) (i w : Nat) : ∀ j b, nb m i w j = some b → b < j ∧ may m i b := by
  intro j
  induction j with
  | zero => intro b h; cases h
  | succ j ih =>
    intro b h
    have h' : nstep m i w j (nb m i w j) = some b := h
    unfold nstep at h'
    by_cases hm : may m i j
    · rw [if_pos hm] at h'
      by_cases ho : nb m i w j = none
      · rw [if_pos ho] at h'
        cases h'
        exact ⟨by omega, hm⟩
      · rw [if_neg ho] at h'
        by_cases hl : wayN w (hN m j) < wayN w (hN m ((nb m i w j).getD 0))
        · rw [if_pos hl] at h'
          cases h'
          exact ⟨by omega, hm⟩
        · rw [if_neg hl] at h'
          have := ih b h'
          exact ⟨by omega, this.2⟩
    · rw [if_neg hm] at h'
      have := ih b h'
      exact ⟨by omega, this.2⟩
def pop6 (w : Nat) : Nat := w % 2 + w / 2 % 2 + w / 4 % 2 + w / 8 % 2 + w / 16 % 2 + w / 32 % 2
set_option maxRecDepth 100000 in
theorem bit01 : ∀ v, v < 64 → ∀ h, h < 6 → ((nI v >>> (nI h &&& 31)) &&& 1) = 0 ∨ ((nI v >>> (nI h &&& 31)) &&& 1) = 1 := by decide +kernel
set_option maxRecDepth 100000 in
theorem bitset : ∀ v, v < 64 → ∀ h, h < 6 → ((nI v >>> (nI h &&& 31)) &&& 1) = 0 → (nI v ||| (1 <<< (nI h &&& 31))) = nI (v + 2 ^ h) ∧ v + 2 ^ h < 64 ∧ pop6 (v + 2 ^ h) = pop6 v + 1 := by decide +kernel
theorem pop6_le : ∀ v, v < 64 → pop6 v ≤ 6 := by decide +kernel
/-- what both sides know of a request that asks -/
def Asks (k : kS) (m : mS) (cq i w v : Nat) : Prop := k.1 20 cq = m 8 i ∧ k.1 21 cq = m 9 i ∧ k.1 26 cq = m 13 i ∧ m 8 i = nI w ∧ w < 6 ∧ m 13 i = nI v ∧ v < 64
theorem sx_may {S0 : Nat} {k : kS} {m : mS} {n cq i w v j : Nat} {ca : Nat → Nat} {Q : Int32 → kS → Prop} (hC : pC k m n ca) (hj : j < n) (hAs : Asks k m cq i w v) (h1 : may m i j → Q 1 k) (h0 : ¬ may m i j → Q 0 k) : wX3_mayAskFor S0 k cq (ca j) Q := by
  obtain ⟨-, -, a3⟩ := hC.1 j hj
  have e11 : k.1 11 (ca j) = m 0 j := a3.2.1
  have e12 : k.1 12 (ca j) = m 1 j := a3.2.2.1
  have e15 : k.1 15 (ca j) = m 4 j := a3.2.2.2.2.1
  obtain ⟨y, hy, e0⟩ : ∃ h, h < 6 ∧ m 0 j = nI h := a3.2.2.2.2.2.2.2.2.1
  obtain ⟨s1, s2, s3, s4, s5, s6, s7⟩ := hAs
  have hb := bit01 v s7 y hy
  unfold wX3_mayAskFor
  rw [e11, e12, e15, s1, s2, s3]
  refine ⟨fun e => ?_, fun e => ?_⟩
  · have hn : ¬ may m i j := fun h => by
      rw [h.2] at e
      exact absurd e (by decide)
    exact ⟨fun _ => ⟨fun _ => ⟨fun _ => h0 hn, fun _ => h0 hn⟩, fun _ => h0 hn⟩, fun _ => h0 hn⟩
  · have hz : ((m 13 i >>> (m 0 j &&& 31)) &&& 1) = 0 := by
      rw [s6, e0] at e ⊢
      exact hb.resolve_right e
    exact ⟨fun e1 => ⟨fun e2 => ⟨fun e3 => h0 (fun h => h.1.2.2 e3), fun e3 => h1 ⟨⟨e1, e2, e3⟩, hz⟩⟩, fun e2 => h0 (fun h => e2 h.1.2.1)⟩, fun e1 => h0 (fun h => e1 h.1.1)⟩
theorem near_end {S0 : Nat} {k : kS} {m : mS} {n cq : Nat} {ca : Nat → Nat} {Q : Option Nat → kS → Prop} {o : Option Nat} {x2 : Int32} (hC : pC k m n ca) (hQ : Q o k) : ∀ (z j : Nat), j + z = 20 → n ≤ j → wX5_nearestListedFree_l18 S0 cq Q (z + 1) (nI j) x2 o k := by
  intro z
  induction z with
  | zero =>
    intro j hj hn
    obtain rfl : j = 20 := by omega
    unfold wX5_nearestListedFree_l18
    refine ⟨fun e => ?_, fun o6 e => ?_⟩
    · rw [e] at hQ; exact bi (by decide) hQ
    · rw [e] at hQ; exact bi (by decide) hQ
  | succ z ih =>
    intro j hj hn
    have h20 : ¬ (20 : Int32) ≤ nI j := by rw [show (20 : Int32) = nI 20 from rfl, q_le (by omega) (by omega)]; omega
    unfold wX5_nearestListedFree_l18
    rw [q_cl (by omega), (hC.2 j hn (by omega)).1, nI_1]
    refine ⟨fun e => bn h20 ⟨q_in (by omega) (by decide), bN ?_⟩, fun o6 e => bn h20 ⟨q_in (by omega) (by decide), bN ?_⟩⟩
    · rw [← e]; exact ih (j + 1) (by omega) (by omega)
    · rw [← e]; exact ih (j + 1) (by omega) (by omega)
theorem near_loop {S0 : Nat} {k : kS} {m : mS} {n cq i w v : Nat} {ca : Nat → Nat} {Q : Option Nat → kS → Prop} (hC : pC k m n ca) (hn : n ≤ 20) (hAs : Asks k m cq i w v) (hQ : Q ((nb m i w n).map ca) k) : ∀ (y j : Nat), j + y = n → ∀ x2 : Int32, (∀ b, nb m i w j = some b → x2 = nI (wayN w (hN m b))) → wX5_nearestListedFree_l18 S0 cq Q (y + (20 - n) + 1) (nI j) x2 ((nb m i w j).map ca) k := by
  intro y
  induction y with
  | zero =>
    intro j hj x2 hx
    obtain rfl : j = n := by omega
    rw [Nat.zero_add]
    exact near_end hC hQ (20 - j) j (by omega) (Nat.le_refl _)
  | succ y ih =>
    intro j hj x2 hx
    have hjn : j < n := by omega
    have h20 : ¬ (20 : Int32) ≤ nI j := by rw [show (20 : Int32) = nI 20 from rfl, q_le (by omega) (by omega)]; omega
    obtain ⟨a1, -, a3⟩ := hC.1 j hjn
    have e11 : k.1 11 (ca j) = m 0 j := a3.2.1
    obtain ⟨z, hz, e0⟩ : ∃ h, h < 6 ∧ m 0 j = nI h := a3.2.2.2.2.2.2.2.2.1
    have ehN : hN m j = z := by unfold hN; rw [e0, q_cl (by omega)]
    have hstep : nb m i w (j + 1) = nstep m i w j (nb m i w j) := rfl
    have ih' := ih (j + 1) (by omega)
    rw [show y + 1 + (20 - n) + 1 = (y + (20 - n) + 1) + 1 by omega]
    unfold wX5_nearestListedFree_l18
    rw [q_cl (by omega), a1, nI_1]
    rcases hb : nb m i w j with _ | b
    · refine ⟨fun _ => bn h20 ⟨q_in (by omega) (by decide), bS ?_⟩, fun o6 e => (nomatch e)⟩
      refine sx_may hC hjn hAs (fun hm => b1 ?_) (fun hm => b0 ?_)
      · rw [hAs.1, hAs.2.2.2.1, e11, e0]
        refine sx_way hAs.2.2.2.2.1 hz ?_
        have e2 : nb m i w (j + 1) = some j := by rw [hstep, hb]; unfold nstep; rw [if_pos hm, if_pos rfl]
        have := ih' (nI (wayN w z)) (fun b hb2 => by rw [e2] at hb2; cases hb2; rw [ehN])
        rw [e2] at this
        exact this
      · have e2 : nb m i w (j + 1) = none := by rw [hstep, hb]; unfold nstep; rw [if_neg hm]
        have := ih' x2 (fun b hb2 => by rw [e2] at hb2; cases hb2)
        rw [e2] at this
        exact this
    · have hx2 := hx b hb
      have hbs := nb_spec m i w j b hb
      obtain ⟨zb, hzb, e0b⟩ : ∃ h, h < 6 ∧ m 0 b = nI h := (hC.1 b (by omega)).2.2.2.2.2.2.2.2.2.2.1
      have ehNb : hN m b = zb := by unfold hN; rw [e0b, q_cl (by omega)]
      have hw1 := wayN_le hAs.2.2.2.2.1 hz
      have hw2 := wayN_le hAs.2.2.2.2.1 hzb
      refine ⟨fun e => (nomatch e), fun o6 e => ?_⟩
      have eo : o6 = ca b := by
        have : some (ca b) = some o6 := e
        cases this; rfl
      subst eo
      refine bn h20 ⟨q_in (by omega) (by decide), bS ?_⟩
      refine sx_may hC hjn hAs (fun hm => b1 ?_) (fun hm => b0 ?_)
      · rw [hAs.1, hAs.2.2.2.1, e11, e0]
        refine sx_way hAs.2.2.2.2.1 hz ?_
        rw [hx2, ehNb]
        by_cases hl : wayN w z < wayN w zb
        · have e2 : nb m i w (j + 1) = some j := by
            rw [hstep, hb]; unfold nstep
            rw [if_pos hm, if_neg (by simp), if_pos]
            show wayN w (hN m j) < wayN w (hN m b)
            rw [ehN, ehNb]; exact hl
          have := ih' (nI (wayN w z)) (fun b hb2 => by rw [e2] at hb2; cases hb2; rw [ehN])
          rw [e2] at this
          exact bn (by rw [q_le (by omega) (by omega)]; omega) this
        · have e2 : nb m i w (j + 1) = some b := by
            rw [hstep, hb]; unfold nstep
            rw [if_pos hm, if_neg (by simp), if_neg]
            show ¬ wayN w (hN m j) < wayN w (hN m b)
            rw [ehN, ehNb]; exact hl
          have := ih' (nI (wayN w zb)) (fun b2 hb2 => by rw [e2] at hb2; cases hb2; rw [ehNb])
          rw [e2] at this
          exact bi (by rw [q_le (by omega) (by omega)]; omega) this
      · have e2 : nb m i w (j + 1) = some b := by rw [hstep, hb]; unfold nstep; rw [if_neg hm]
        have := ih' x2 (fun b2 hb2 => by rw [e2] at hb2; cases hb2; exact hx2)
        rw [e2] at this
        exact this
theorem sx_near {S0 : Nat} {k : kS} {m : mS} {n cq i w v : Nat} {ca : Nat → Nat} {Q : Option Nat → kS → Prop} (hC : pC k m n ca) (hn : n ≤ 20) (hAs : Asks k m cq i w v) (hQ : Q ((nb m i w n).map ca) k) : wX5_nearestListedFree S0 k cq Q :=
  ⟨_, near_loop hC hn hAs hQ n 0 (by omega) 0 (fun b e => (nomatch e))⟩
def ob (o : Option Nat) : Int32 := match o with | none => -1 | some b => nI b
def mFail (m : mS) (i : Nat) : mS := mset (mset m 11 i (-1)) 10 i 5
def mAsk (m : mS) (i b : Nat) : mS := mset (mset (mset m 11 i (nI b)) 10 i 0) 13 i (m 13 i ||| (1 <<< (m 0 b &&& 31)))
theorem ask_loop {k k2 : kS} {m : mS} {n cq i w v : Nat} {ca : Nat → Nat} {Q : mS → Prop} (hC : pC k m n ca) (h7 : m 7 0 = nI n) (hn : n ≤ 20) (hi : i < 40) (hAs : Asks k2 m cq i w v) (hN0 : nb m i w n = none → Q (mFail m i)) (hNb : ∀ b z, nb m i w n = some b → m 0 b = nI z → z < 6 → wX6_send (mAsk m i b) 2 (nI i) (nI (wayN w z)) (fun _ m1 => Q m1)) : ∀ (y j : Nat), j + y = n → wX6_ask_l4 (nI i) Q (y + 1) (nI j) (ob (nb m i w j)) m := by
  have hin : vp_in (nI i) 40 := q_in hi (by decide)
  intro y
  induction y with
  | zero =>
    intro j hj
    obtain rfl : j = n := by omega
    unfold wX6_ask_l4
    rw [h7]
    refine ⟨fun _ => ⟨hin, ?_⟩, fun e => absurd ((q_le (by omega) (by omega)).mpr (Nat.le_refl _)) e⟩
    rw [q_cl (by omega)]
    rintro m7 rfl
    rcases hb : nb m i w j with _ | b
    · refine bn (by decide) ⟨hin, ?_⟩
      rintro m23 rfl
      exact bi (by decide) (hN0 hb)
    · have hbs := nb_spec m i w j b hb
      obtain ⟨zb, hzb, e0b⟩ : ∃ h, h < 6 ∧ m 0 b = nI h := (hC.1 b (by omega)).2.2.2.2.2.2.2.2.2.2.1
      have hbin : vp_in (nI b) 20 := q_in (by omega) (by decide)
      show ((0 : Int32) ≤ nI b → _) ∧ _
      refine bi (q_ge0 (by omega)) ⟨hin, ?_⟩
      rintro m10 rfl
      refine bn (q_nn (n := b) (by omega)) ⟨hin, hbin, hin, ?_⟩
      show ∀ m15 : mS, m15 = mset (mset (mset m 11 i (nI b)) 10 i 0) 13 i ((mset (mset m 11 i (nI b)) 10 i 0 13 i) ||| (1 <<< ((mset (mset m 11 i (nI b)) 10 i 0 0 (nI b).toNatClampNeg) &&& 31))) → _
      rw [q_cl (show b < 1000000 by omega)]
      rintro m15 rfl
      refine ⟨hbin, hin, ?_⟩
      show wX6_way (mAsk m i b) (mAsk m i b 0 (nI b).toNatClampNeg) (mAsk m i b 8 i) _
      rw [q_cl (show b < 1000000 by omega), show mAsk m i b 0 b = nI zb from e0b, show mAsk m i b 8 i = nI w from hAs.2.2.2.1]
      refine sm_way hzb hAs.2.2.2.2.1 ?_
      rw [wayN_comm]
      exact hNb b zb hb e0b hzb
  | succ y ih =>
    intro j hj
    have hjn : j < n := by omega
    obtain ⟨-, -, a3⟩ := hC.1 j hjn
    obtain ⟨z, hz, e0⟩ : ∃ h, h < 6 ∧ m 0 j = nI h := a3.2.2.2.2.2.2.2.2.1
    have ehN : hN m j = z := by unfold hN; rw [e0, q_cl (by omega)]
    have hstep : nb m i w (j + 1) = nstep m i w j (nb m i w j) := rfl
    have hjin : vp_in (nI j) 20 := q_in (by omega) (by decide)
    have ih' := ih (j + 1) (by omega)
    have hkeep : ¬ may m i j → wX6_ask_l4 (nI i) Q (y + 1) (nI (j + 1)) (ob (nb m i w j)) m := fun hm => by
      have e2 : nb m i w (j + 1) = nb m i w j := by rw [hstep]; unfold nstep; rw [if_neg hm]
      rw [e2] at ih'
      exact ih'
    unfold wX6_ask_l4
    rw [h7, nI_1, q_cl (show j < 1000000 by omega), q_cl (show i < 1000000 by omega)]
    refine bn (by rw [q_le (by omega) (by omega)]; omega) ⟨hjin, hin, fun e1 => ⟨hjin, fun e2 => ⟨hjin, hin, fun e3 => ?_, fun e3 => ⟨hin, hjin, fun e4 => ?_, fun e4 => ?_⟩⟩, fun e2 => ?_⟩, fun e1 => ?_⟩
    · exact hkeep (fun h => h.1.2.2 e3)
    · have hm : may m i j := ⟨⟨e1, e2, e3⟩, e4⟩
      rcases hb : nb m i w j with _ | b
      · have e2 : nb m i w (j + 1) = some j := by rw [hstep, hb]; unfold nstep; rw [if_pos hm, if_pos rfl]
        rw [e2] at ih'
        exact bi (by decide) ih'
      · have hbs := nb_spec m i w j b hb
        obtain ⟨zb, hzb, e0b⟩ : ∃ h, h < 6 ∧ m 0 b = nI h := (hC.1 b (by omega)).2.2.2.2.2.2.2.2.2.2.1
        have ehNb : hN m b = zb := by unfold hN; rw [e0b, q_cl (by omega)]
        have hbin : vp_in (nI b) 20 := q_in (by omega) (by decide)
        have hw1 := wayN_le hAs.2.2.2.2.1 hz
        have hw2 := wayN_le hAs.2.2.2.2.1 hzb
        refine bn (q_nn (n := b) (by omega)) ⟨hjin, hin, ?_⟩
        rw [e0, hAs.2.2.2.1]
        refine sm_way hz hAs.2.2.2.2.1 ⟨hbin, hin, ?_⟩
        show wX6_way m (m 0 (nI b).toNatClampNeg) (m 8 i) _
        rw [q_cl (show b < 1000000 by omega), e0b, hAs.2.2.2.1]
        refine sm_way hzb hAs.2.2.2.2.1 ?_
        rw [wayN_comm z w, wayN_comm zb w]
        by_cases hl : wayN w z < wayN w zb
        · have e2 : nb m i w (j + 1) = some j := by
            rw [hstep, hb]; unfold nstep
            rw [if_pos hm, if_neg (by simp), if_pos]
            show wayN w (hN m j) < wayN w (hN m b)
            rw [ehN, ehNb]; exact hl
          rw [e2] at ih'
          exact bn (by rw [q_le (by omega) (by omega)]; omega) ih'
        · have e2 : nb m i w (j + 1) = some b := by
            rw [hstep, hb]; unfold nstep
            rw [if_pos hm, if_neg (by simp), if_neg]
            show ¬ wayN w (hN m j) < wayN w (hN m b)
            rw [ehN, ehNb]; exact hl
          rw [e2] at ih'
          exact bi (by rw [q_le (by omega) (by omega)]; omega) ih'
    · exact hkeep (fun h => e4 h.2)
    · exact hkeep (fun h => e2 h.1.2.1)
    · exact hkeep (fun h => e1 h.1.1)
