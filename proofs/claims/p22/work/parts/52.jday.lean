/-! THE PROPERTY over the days: the runs of 47 to 49 once more, with it -/
theorem day_loopJ {S0 n r d c u0 W cc : Nat} {ca ra : Nat → Nat} : ∀ (y j i : Nat) (k : kS) (m : mS) (t : Nat) (A QC : List Nat), j + y = u0 → InD k m n r d c t ca ra A QC j i u0 W → J m n r cc j A.length → cc ≤ 600 → ∀ (B nc : Nat), nc + Pot m r ≤ B + Pot (dayF r y j m) r → ∀ Q : Int32 → kS → Prop, (∀ (kE : kS) (tE : Nat) (AE QCE : List Nat), InD kE (dayF r y j m) n r d c tE ca ra AE QCE u0 (i + dayC r y j m) u0 W → J (dayF r y j m) n r cc u0 AE.length → GO r (m 10) (dayF r y j m 10) → tE ≤ t + y → RefRun u0 (dayF r y j m) (i + dayC r y j m) y j i m → Q (nI (i + dayC r y j m)) kE) → ∀ f5, W - i < f5 → wX5_arrivalsOfNextDay_l39 S0 B Q f5 (nI i) (nI i) (nI W) nc k := by
  intro y
  induction y with
  | zero =>
    intro j i k m t A QC hj hI hJ hcc B nc hB Q hQ f5 hf
    obtain rfl : j = u0 := by omega
    have hI' := hI
    obtain ⟨hcore, hS, ⟨l1, l2, l3, l4, l5, l6⟩, hl, hbey, hc, ht⟩ := hI'
    have hcore' := hcore
    obtain ⟨-, -, ⟨d1, d2, d3⟩, -, -, -, hQ0, hM⟩ := hcore'
    have hfin : Q (nI i) k := by
      refine hQ k t A QC hI hJ (GO_rf hJ.1) (Nat.le_refl _) ?_
      intro Q2 hq
      unfold wX6_arriveAll_l9
      exact ⟨fun _ => hq, fun e => absurd ((q_le (by omega) (by omega)).mpr (Nat.le_refl _)) e⟩
    have hgt : ∀ a, a ∈ QC → d < arr k a := by
      intro a ha
      have h1 := hS.2.2.2 a ha
      by_cases e : arr k a = d
      · have h2 : a ∈ QC.filter (fun x => arr k x == d) := List.mem_filter.mpr ⟨ha, by simp only [beq_iff_eq]; exact e⟩
        rw [hS.2.2.1] at h2
        obtain ⟨h3, -⟩ := List.mem_filter.mp h2
        obtain ⟨x, hx⟩ := List.mem_iff_getElem?.mp h3
        rw [List.getElem?_drop] at hx
        have := hbey _ a (by omega) hx
        omega
      · omega
    obtain ⟨f, rfl⟩ : ∃ f, f5 = f + 1 := ⟨f5 - 1, by omega⟩
    have hB' : nc ≤ B := by
      have : Pot (dayF r 0 j m) r = Pot m r := rfl
      omega
    unfold wX5_arrivalsOfNextDay_l39
    refine ⟨hB', fun _ => hfin, fun _ => ?_⟩
    rw [d2]
    cases QC with
    | nil => exact sx_take_0 hQ0 (bN hfin)
    | cons b QC1 =>
      have hbm := core_mem hcore (hM.2.2.2.1 b List.mem_cons_self).1
      exact sx_take_n hQ0 hbm.2 (by omega) (hgt b List.mem_cons_self) (bN hfin)
  | succ y ih =>
    intro j i k m t A QC hj hI hJ hcc B nc hB Q hQ f5 hf
    have hI' := hI
    obtain ⟨hcore, hS, ⟨l1, l2, l3, l4, l5, l6⟩, hl, hbey, hc, ht⟩ := hI'
    have hcore' := hcore
    obtain ⟨-, -, ⟨d1, d2, d3⟩, -, -, -, hQ0, hM⟩ := hcore'
    have hjA : j < A.length := by omega
    obtain ⟨a, ha⟩ : ∃ a, A[j]? = some a := ⟨_, List.getElem?_eq_getElem hjA⟩
    have haA : a ∈ A := List.mem_of_getElem? ha
    have hrow := hM.2.2.1 j a ha
    have ham := core_mem hcore haA
    have e18 : m 18 j = nI (arr k a) := hrow.2.1.trans ham.2.1
    have hjin : vp_in (nI j) 4000 := q_in (by omega) (by decide)
    have hjne : ¬ nI u0 ≤ nI j := by rw [q_le (by omega) (by omega)]; omega
    by_cases he : m 18 j = m 22 0
    · have ead : arr k a = d := by
        rw [e18, d1] at he
        exact q_inj (by omega) (by omega) he
      have eF : dayF r (y + 1) j m = dayF r y (j + 1) (mArr r m (m 16 j) (m 17 j)) := if_pos he
      have eC : dayC r (y + 1) j m = dayC r y (j + 1) (mArr r m (m 16 j) (m 17 j)) + 1 := if_pos he
      rw [eF] at hB hQ
      rw [eC] at hQ
      obtain ⟨QC1, rfl, hS1⟩ := srt_head hS ha ead
      obtain ⟨f, rfl⟩ : ∃ f, f5 = f + 1 := ⟨f5 - 1, by omega⟩
      have hP1 := Pot_arr r m (m 16 j) (m 17 j)
      have hP2 := Pot_day r y (j + 1) (mArr r m (m 16 j) (m 17 j))
      unfold wX5_arrivalsOfNextDay_l39
      refine ⟨by omega, fun e => ?_, fun _ => ?_⟩
      · rw [q_le (by omega) (by omega)] at e
        omega
      · rw [d2]
        refine sx_take_y hQ0 ham.2 (by omega) (by omega) (fun k1 hs1 hp1 => bS ?_)
        obtain ⟨hcore1, hlr, hlp, harr1⟩ := core_take hcore hs1 hp1
        have hS1' := srt_eq hS1 harr1
        have hrow1 : mRow k1 n r ca ra a (m 16 j) (m 17 j) (m 18 j) := mRow_cg hrow (congrFun hs1.2.2 _) (congrFun (hs1.1 30 (by decide)) _) (congrFun (hs1.1 31 (by decide)) _) (congrFun (hs1.2.1 32 (by decide)) _) (congrFun (hs1.2.1 33 (by decide)) _)
        rw [List.length_cons] at hl
        have hUb : UB t < 1000000000 := by unfold UB; omega
        have hEb : EB c t ≤ 2000000000 := by unfold EB; omega
        obtain ⟨v6, vp, v5⟩ := arrive_both (S0 := S0) (k := k1) (m := m) (t := t) (c := c) (a := a) ⟨hcore1, by omega, hc, hEb, hl, hlr, hlp⟩ hUb hrow1
        refine ⟨bArr m (m 16 j) (m 17 j), by omega, v5 _ (fun k2 hD => ?_)⟩
        obtain ⟨X, QC', hcore2, hX, hl2, harr2, hgt2, hsrt2⟩ := hD
        rw [nI_1]
        have hI2 : InD k2 (mArr r m (m 16 j) (m 17 j)) n r d c (t + 1) ca ra (A ++ X) QC' (j + 1) (i + 1) u0 W := by
          refine ⟨hcore2, hsrt2 (j + 1) (by omega) hS1', ⟨by omega, by rw [List.length_append]; omega, by rw [List.length_append]; omega, by omega, l5, l6⟩, hl2, fun x b hx hb => ?_, hc, by omega⟩
          by_cases hxA : x < A.length
          · rw [List.getElem?_append_left hxA] at hb
            rw [harr2 b (List.mem_of_getElem? hb), harr1]
            exact hbey x b hx hb
          · rw [List.getElem?_append_right (by omega)] at hb
            exact hgt2 b (List.mem_of_getElem? hb)
        obtain ⟨⟨u', hu', e19', hJ1⟩, hG⟩ := J_arr (c := cc) ⟨hcore1, by omega, hc, hEb, hl, hlr, hlp⟩ hrow1 hjA he hcc hJ
        have hlen2 := hcore2.2.2.2.2.2.2.2.2.1
        have hlen3 := hcore2.2.2.2.2.2.2.2.1
        have eu' : u' = (A ++ X).length := q_inj (by omega) (by omega) (e19'.symm.trans hlen3)
        rw [eu'] at hJ1
        refine ih (j + 1) (i + 1) k2 _ (t + 1) (A ++ X) QC' (by omega) hI2 hJ1 hcc B (nc + bArr m (m 16 j) (m 17 j)) (by omega) Q (fun kE tE AE QCE hE hJE hGE htE hRR => ?_) f (by omega)
        have eidx : i + 1 + dayC r y (j + 1) (mArr r m (m 16 j) (m 17 j)) = i + (dayC r y (j + 1) (mArr r m (m 16 j) (m 17 j)) + 1) := by omega
        rw [eidx] at hE hRR ⊢
        refine hQ kE tE AE QCE hE hJE (GO_tr hG hGE) (by omega) ?_
        intro Q2 hq
        unfold wX6_arriveAll_l9
        refine bn hjne ⟨hjin, ?_⟩
        rw [q_cl (by omega)]
        refine bi he ⟨hjin, hjin, v6 _ ?_⟩
        rw [nI_1, nI_1]
        exact hRR Q2 hq
    · have eF : dayF r (y + 1) j m = dayF r y (j + 1) m := if_neg he
      have eC : dayC r (y + 1) j m = dayC r y (j + 1) m := if_neg he
      rw [eF] at hB hQ
      rw [eC] at hQ
      have hne : arr k a ≠ d := fun e => he (by rw [e18, d1, e])
      refine ih (j + 1) i k m t A QC (by omega) ⟨hcore, srt_skip hS ha hne, ⟨by omega, l2, l3, by omega, l5, l6⟩, hl, hbey, hc, by omega⟩ ⟨hJ.1, hJ.2.1, hJ.2.2.1, JD_mono hJ.2.2.2 rnw_up (Nat.le_refl _)⟩ hcc B nc hB Q (fun kE tE AE QCE hE hJE hGE htE hRR => hQ kE tE AE QCE hE hJE hGE (by omega) ?_) f5 hf
      intro Q2 hq
      unfold wX6_arriveAll_l9
      refine bn hjne ⟨hjin, ?_⟩
      rw [q_cl (by omega)]
      refine bn he ?_
      rw [nI_1]
      exact hRR Q2 hq


def kc4 (a : Nat) : Prop := a = 0 ∨ a = 1 ∨ a = 8 ∨ a = 9
theorem mEnd_k (m : mS) (i w n u d : Nat) {a : Nat} (h : kc4 a) : mEnd m i w n u d a = m a := by
  unfold mEnd
  cases nb m i w n with
  | none => rcases h with rfl | rfl | rfl | rfl <;> rfl
  | some b => rcases h with rfl | rfl | rfl | rfl <;> rfl
theorem mArr0_k (m : mS) (x y : Int32) {a : Nat} (h : kc4 a) : mArr0 m x y a = m a := by
  have hb : ∀ mm w z n, mBill mm w z n a = mm a := fun mm w z n => mBill_c mm w z n (by rcases h with rfl | rfl | rfl | rfl <;> decide) (by rcases h with rfl | rfl | rfl | rfl <;> decide)
  have hf : ∀ mm j, mFind mm j a = mm a := fun mm j => mFind_c mm j (by rcases h with rfl | rfl | rfl | rfl <;> decide) (by rcases h with rfl | rfl | rfl | rfl <;> decide)
  unfold mArr0
  split
  · unfold mAns mAn
    split
    · rcases h with rfl | rfl | rfl | rfl <;> rfl
    · exact mEnd_k _ _ _ _ _ _ h
  · split
    · unfold mRen
      split
      · rcases h with rfl | rfl | rfl | rfl <;> rfl
      · rfl
    · split
      · unfold mRec
        split
        · split
          · rfl
          · rcases h with rfl | rfl | rfl | rfl <;> rfl
        · rfl
      · split
        · split
          · unfold mLoan
            refine Eq.trans ?_ (hb m (i2n (m 8 (i2n y))) (i2n (m 0 (i2n (m 11 (i2n y))))) (i2n (m 7 0)))
            rcases h with rfl | rfl | rfl | rfl <;> rfl
          · unfold mHome mHom
            split
            · refine Eq.trans ?_ ((hf (mH m (i2n y) (i2n (m 11 (i2n y))) (i2n (m 0 (i2n (m 11 (i2n y)))))) (i2n (m 11 (i2n y)))).trans ?_)
              · rcases h with rfl | rfl | rfl | rfl <;> rfl
              · rcases h with rfl | rfl | rfl | rfl <;> rfl
            · refine (hf _ _).trans ?_
              rcases h with rfl | rfl | rfl | rfl <;> rfl
        · rcases h with rfl | rfl | rfl | rfl <;> rfl
theorem mArr_k (r : Nat) (m : mS) (x y : Int32) {a : Nat} (h : kc4 a) : mArr r m x y a = m a := by
  unfold mArr
  split
  · exact mArr0_k m x y h
  · rfl
theorem dayF_k (r : Nat) {a : Nat} (h : kc4 a) : ∀ (y j : Nat) (m : mS), dayF r y j m a = m a := by
  intro y
  induction y with
  | zero => intro j m; rfl
  | succ y ih =>
    intro j m
    show (if m 18 j = m 22 0 then dayF r y (j + 1) (mArr r m (m 16 j) (m 17 j)) else dayF r y (j + 1) m) a = _
    split
    · rw [ih, mArr_k r m _ _ h]
    · exact ih _ _
theorem mQ_k (m : mS) (v : Int32) {a : Nat} (h : kc4 a) : mQ (mset m 22 0 v) a = m a := by
  unfold mQ
  split <;> rcases h with rfl | rfl | rfl | rfl <;> rfl
theorem dayC_le (r : Nat) : ∀ (y j : Nat) (m : mS), dayC r y j m ≤ y := by
  intro y
  induction y with
  | zero => intro j m; exact Nat.le_refl _
  | succ y ih =>
    intro j m
    show (if m 18 j = m 22 0 then dayC r y (j + 1) (mArr r m (m 16 j) (m 17 j)) + 1 else dayC r y (j + 1) m) ≤ y + 1
    split
    · have := ih (j + 1) (mArr r m (m 16 j) (m 17 j))
      omega
    · have := ih (j + 1) m
      omega
/-- renewals that are kept -/
def pnd (m : mS) (d : Nat) : Nat → Nat → Nat
  | 0, _ => 0
  | y + 1, x => (if m 16 x = 3 ∧ ¬ m 18 x ≤ nI d then 1 else 0) + pnd m d y (x + 1)
def k3 (m : mS) : Nat → Bool := fun k => decide (m 16 k = 3)
theorem rnw_0 (m : mS) (u : Nat) : rnw m 0 u = ct (k3 m) u := by
  refine ct_cg u (fun x _ => ?_)
  unfold rnwB k3
  have : (0 ≤ x ∨ m 18 x ≠ m 22 0) := Or.inl (Nat.zero_le _)
  simp only [this, and_true]
theorem pnd_cg {m m' : mS} (d : Nat) : ∀ y x, (∀ z, x ≤ z → m' 16 z = m 16 z ∧ m' 18 z = m 18 z) → pnd m' d y x = pnd m d y x := by
  intro y
  induction y with
  | zero => intro x _; rfl
  | succ y ih =>
    intro x h
    show (if m' 16 x = 3 ∧ ¬ m' 18 x ≤ nI d then 1 else 0) + pnd m' d y (x + 1) = (if m 16 x = 3 ∧ ¬ m 18 x ≤ nI d then 1 else 0) + pnd m d y (x + 1)
    rw [(h x (Nat.le_refl _)).1, (h x (Nat.le_refl _)).2, ih (x + 1) (fun z hz => h z (by omega))]
theorem pnd_le {m : mS} {d lo : Nat} (hd : m 22 0 = nI d) : ∀ y x, ct (rnwB m lo) x + pnd m d y x ≤ ct (rnwB m lo) (x + y) := by
  intro y
  induction y with
  | zero => intro x; exact Nat.le_refl _
  | succ y ih =>
    intro x
    have h1 := ih (x + 1)
    rw [show x + 1 + y = x + (y + 1) by omega] at h1
    have h2 : ct (rnwB m lo) (x + 1) = ct (rnwB m lo) x + (if rnwB m lo x then 1 else 0) := rfl
    show ct (rnwB m lo) x + ((if m 16 x = 3 ∧ ¬ m 18 x ≤ nI d then 1 else 0) + pnd m d y (x + 1)) ≤ _
    by_cases e : m 16 x = 3 ∧ ¬ m 18 x ≤ nI d
    · have e2 : rnwB m lo x = true := by
        unfold rnwB
        simp only [decide_eq_true_eq]
        refine ⟨e.1, Or.inr (fun e3 => e.2 ?_)⟩
        rw [e3, hd, Int32.le_iff_toInt_le]
        omega
      rw [if_pos e2] at h2
      rw [if_pos e]
      omega
    · rw [if_neg e]
      omega

theorem keep_loopJ {k : kS} {n r d N : Nat} {ca ra : Nat → Nat} {x9 v : Int32} (hN : N ≤ 3000) (hd : d < 1000000) : ∀ (rest : List Nat) (x : Nat) (L : List Nat) (mc : mS), x + rest.length = N → L.length ≤ x → (∀ j a, rest[j]? = some a → mRow k n r ca ra a (mc 16 (x + j)) (mc 17 (x + j)) (mc 18 (x + j))) → (∀ j a, L[j]? = some a → mRow k n r ca ra a (mc 16 j) (mc 17 j) (mc 18 j)) → mc 19 0 = nI N → mc 22 0 = nI d →
    ∃ m1 : mS, (∀ (K : Int32 → Int32 → Int32 → mS → Prop) (Q2 : Int32 → mS → Prop), Q2 v m1 → wX6_arriveAll_l57 Q2 K (rest.length + 1) (nI x) (nI L.length) x9 v mc) ∧ (∀ b, b < 16 ∨ 19 < b → m1 b = mc b) ∧ m1 19 0 = nI (L ++ rest.filter (fun a => decide (d < arr k a))).length ∧ (∀ j a, (L ++ rest.filter (fun a => decide (d < arr k a)))[j]? = some a → mRow k n r ca ra a (m1 16 j) (m1 17 j) (m1 18 j)) ∧ ct (k3 m1) (L ++ rest.filter (fun a => decide (d < arr k a))).length ≤ ct (k3 mc) L.length + pnd mc d rest.length x := by
  intro rest
  induction rest with
  | nil =>
    intro x L mc hx hL hr hl h19 h22
    have hxN : x = N := by simpa using hx
    refine ⟨mset mc 19 0 (nI L.length), fun K Q2 hq => ?_, fun b hb => ms_c _ _ _ _ (by omega), ?_, fun j a hj => ?_, ?_⟩
    · unfold wX6_arriveAll_l57
      rw [h19]
      refine ⟨fun _ => ?_, fun e => absurd ((q_le (by omega) (by omega)).mpr (by omega)) e⟩
      rintro m14 rfl
      exact hq
    · rw [List.filter_nil, List.append_nil]
      exact upd_s (mc 19) 0 (nI L.length)
    · rw [List.filter_nil, List.append_nil] at hj
      exact hl j a hj
    · rw [List.filter_nil, List.append_nil]
      exact Nat.le_add_right _ _
  | cons a rest ih =>
    intro x L mc hx hL hr hl h19 h22
    rw [List.length_cons] at hx
    have h0 := hr 0 a rfl
    rw [Nat.add_zero] at h0
    obtain ⟨w, hw, e31⟩ := h0.2.2.1
    have earr : arr k a = w := by unfold arr; rw [e31, q_cl (by omega)]
    have e18 : mc 18 x = nI w := h0.2.1.trans e31
    have hxin : vp_in (nI x) 4000 := q_in (by omega) (by decide)
    have hLin : vp_in (nI L.length) 4000 := q_in (by omega) (by decide)
    have hne : ¬ nI N ≤ nI x := by rw [q_le (by omega) (by omega)]; omega
    by_cases hle : w ≤ d
    · have ef : (a :: rest).filter (fun a => decide (d < arr k a)) = rest.filter (fun a => decide (d < arr k a)) := by
        rw [List.filter_cons, if_neg (by simp only [decide_eq_true_eq]; omega)]
      obtain ⟨m1, g1, g2, g3, g4, g5⟩ := ih (x + 1) L mc (by omega) (by omega) (fun j b hb => by
        have := hr (j + 1) b hb
        rw [show x + (j + 1) = x + 1 + j by omega] at this
        exact this) hl h19 h22
      rw [ef]
      refine ⟨m1, fun K Q2 hq => ?_, g2, g3, g4, Nat.le_trans g5 (Nat.add_le_add_left (Nat.le_add_left _ _) _)⟩
      unfold wX6_arriveAll_l57
      rw [h19, q_cl (show x < 1000000 by omega), e18, h22, nI_1]
      exact bn hne ⟨hxin, bi ((q_le (by omega) (by omega)).mpr hle) (g1 K Q2 hq)⟩
    · have ef : L ++ (a :: rest).filter (fun a => decide (d < arr k a)) = (L ++ [a]) ++ rest.filter (fun a => decide (d < arr k a)) := by
        rw [List.filter_cons, if_pos (by simp only [decide_eq_true_eq]; omega), List.append_assoc]
        rfl
      obtain ⟨mc2, hmc2⟩ : ∃ mm : mS, mm = mset (mset (mset mc 16 L.length (mc 16 x)) 17 L.length (mc 17 x)) 18 L.length (mc 18 x) := ⟨_, rfl⟩
      have c16 : ∀ j, mc2 16 j = if j = L.length then mc 16 x else mc 16 j := by
        intro j
        rw [hmc2]
        show upd (mc 16) L.length (mc 16 x) j = _
        by_cases e : j = L.length
        · rw [if_pos e, e, upd_s]
        · rw [if_neg e, upd_n _ _ e]
      have c17 : ∀ j, mc2 17 j = if j = L.length then mc 17 x else mc 17 j := by
        intro j
        rw [hmc2]
        show upd (mc 17) L.length (mc 17 x) j = _
        by_cases e : j = L.length
        · rw [if_pos e, e, upd_s]
        · rw [if_neg e, upd_n _ _ e]
      have c18 : ∀ j, mc2 18 j = if j = L.length then mc 18 x else mc 18 j := by
        intro j
        rw [hmc2]
        show upd (mc 18) L.length (mc 18 x) j = _
        by_cases e : j = L.length
        · rw [if_pos e, e, upd_s]
        · rw [if_neg e, upd_n _ _ e]
      obtain ⟨m1, g1, g2, g3, g4, g5⟩ := ih (x + 1) (L ++ [a]) mc2 (by omega) (by rw [List.length_append, List.length_singleton]; omega) (fun j b hb => by
        have := hr (j + 1) b hb
        rw [show x + (j + 1) = x + 1 + j by omega] at this
        rw [c16, c17, c18, if_neg (by omega), if_neg (by omega), if_neg (by omega)]
        exact this) (fun j b hb => by
        rw [c16, c17, c18]
        by_cases e : j < L.length
        · rw [List.getElem?_append_left e] at hb
          rw [if_neg (by omega), if_neg (by omega), if_neg (by omega)]
          exact hl j b hb
        · rw [List.getElem?_append_right (by omega)] at hb
          have hj0 : j = L.length := by
            have := (List.getElem?_eq_some_iff.mp hb).1
            rw [List.length_singleton] at this
            omega
          rw [hj0, Nat.sub_self] at hb
          cases hb
          rw [if_pos hj0, if_pos hj0, if_pos hj0]
          exact h0) (by rw [hmc2]; exact h19) (by rw [hmc2]; exact h22)
      rw [ef]
      refine ⟨m1, fun K Q2 hq => ?_, fun b hb => ?_, g3, g4, ?_⟩
      · unfold wX6_arriveAll_l57
        rw [h19, q_cl (show x < 1000000 by omega), h22, nI_1, nI_1, q_cl (show L.length < 1000000 by omega)]
        refine bn hne ⟨hxin, bn (by rw [e18, q_le (by omega) (by omega)]; omega) ⟨hxin, hLin, ?_⟩⟩
        rintro m19 rfl
        refine ⟨hxin, hLin, ?_⟩
        rintro m22 rfl
        refine ⟨hxin, hLin, ?_⟩
        rintro m25 rfl
        have := g1 K Q2 hq
        rw [List.length_append, List.length_singleton, hmc2] at this
        exact this
      · rw [g2 b hb, hmc2]
        exact (ms_c _ _ _ _ (show b ≠ 18 by omega)).trans ((ms_c _ _ _ _ (show b ≠ 17 by omega)).trans (ms_c _ _ _ _ (show b ≠ 16 by omega)))
      · refine Nat.le_trans g5 ?_
        rw [List.length_append, List.length_singleton, List.length_cons]
        have ep : pnd mc2 d rest.length (x + 1) = pnd mc d rest.length (x + 1) := pnd_cg d _ _ (fun z hz => ⟨by rw [c16, if_neg (by omega)], by rw [c18, if_neg (by omega)]⟩)
        have ec : ct (k3 mc2) L.length = ct (k3 mc) L.length := ct_cg _ (fun z hz => by unfold k3; rw [c16, if_neg (by omega)])
        have e1 : ct (k3 mc2) (L.length + 1) = ct (k3 mc2) L.length + (if k3 mc2 L.length then 1 else 0) := rfl
        have e2 : pnd mc d (rest.length + 1) x = (if mc 16 x = 3 ∧ ¬ mc 18 x ≤ nI d then 1 else 0) + pnd mc d rest.length (x + 1) := rfl
        have e3 : (k3 mc2 L.length = true) ↔ (mc 16 x = 3 ∧ ¬ mc 18 x ≤ nI d) := by
          unfold k3
          rw [c16, if_pos rfl]
          simp only [decide_eq_true_eq]
          exact ⟨fun e => ⟨e, by rw [e18, q_le (by omega) (by omega)]; omega⟩, fun e => e.1⟩
        by_cases e : mc 16 x = 3 ∧ ¬ mc 18 x ≤ nI d
        · rw [if_pos e] at e2
          rw [if_pos (e3.mpr e)] at e1
          omega
        · rw [if_neg e] at e2
          rw [if_neg (fun h => e (e3.mp h))] at e1
          omega

theorem day_endJ {k : kS} {m : mS} {n r d c t u0 W i cc : Nat} {ca ra : Nat → Nat} {A QC : List Nat} (h : InD k m n r d c t ca ra A QC u0 i u0 W) (hJ : J m n r cc u0 A.length) (ht : t ≤ 552 * d) (cE y j i0 : Nat) (m0 : mS) (hRR : RefRun u0 m cE y j i0 m0) :
    ∃ (m1 : mS) (A1 : List Nat), RD c k m1 n r d t ca ra A1 QC ∧ m1 10 = m 10 ∧ m1 13 = m 13 ∧ m1 23 = m 23 ∧ m1 22 = m 22 ∧ (∀ a, kc4 a → m1 a = m a) ∧ J m1 n r cc 0 A1.length ∧ (∀ Q2 : Int32 → mS → Prop, Q2 (nI cE) m1 → wX6_arriveAll_l9 Q2 (y + 1) (nI j) (nI u0) (nI i0) m0) := by
  obtain ⟨hcore, hS, ⟨l1, l2, l3, l4, l5, l6⟩, hl, hbey, hc, ht2⟩ := h
  have hcore' := hcore
  obtain ⟨⟨n1, n2, n3⟩, ⟨r1, r2, r3⟩, ⟨d1, d2, d3⟩, hC, hR, hA, hQ0, hM⟩ := hcore'
  have hgt : ∀ a, a ∈ QC → d < arr k a := by
    intro a ha
    have h1 := hS.2.2.2 a ha
    by_cases e : arr k a = d
    · have h2 : a ∈ QC.filter (fun x => arr k x == d) := List.mem_filter.mpr ⟨ha, by simp only [beq_iff_eq]; exact e⟩
      rw [hS.2.2.1] at h2
      obtain ⟨h3, -⟩ := List.mem_filter.mp h2
      obtain ⟨x, hx⟩ := List.mem_iff_getElem?.mp h3
      rw [List.getElem?_drop] at hx
      have := hbey _ a (by omega) hx
      omega
    · omega
  have hN := hM.2.1
  obtain ⟨m1, g1, g2, g3, g4, g5⟩ := keep_loopJ (k := k) (n := n) (r := r) (d := d) (N := A.length) (ca := ca) (ra := ra) (x9 := nI u0) (v := nI cE) hN (by omega) A 0 [] m (by omega) (Nat.le_refl _) (fun j a hj => by rw [Nat.zero_add]; exact hM.2.2.1 j a hj) (fun j a hj => by cases hj) hM.1 d1
  rw [List.nil_append] at g3 g4
  have mem1 : ∀ a, a ∈ A.filter (fun a => decide (d < arr k a)) ↔ a ∈ A ∧ d < arr k a := fun a => by rw [List.mem_filter]; simp only [decide_eq_true_eq]
  have hnd : (A.filter (fun a => decide (d < arr k a))).Nodup := List.Pairwise.filter _ hM.2.2.2.2.2
  have hlen : (A.filter (fun a => decide (d < arr k a))).length ≤ QC.length := by
    refine nodup_len _ _ hnd (fun a ha => ?_)
    obtain ⟨h1, h2⟩ := (mem1 a).mp ha
    have h3 : a ∈ A.filter (fun x => arr k x == arr k a) := List.mem_filter.mpr ⟨h1, by simp only [beq_iff_eq]⟩
    rw [← hS.2.1 _ h2] at h3
    exact (List.mem_filter.mp h3).1
  have e10 : m1 10 = m 10 := g2 10 (by omega)
  refine ⟨m1, A.filter (fun a => decide (d < arr k a)), ⟨⟨⟨by rw [g2 7 (by omega)]; exact n1, n2, n3⟩, ⟨by rw [g2 15 (by omega)]; exact r1, r2, r3⟩, ⟨by rw [g2 22 (by omega)]; exact d1, d2, d3⟩, ?_, ?_, ?_, hQ0, ⟨g3, ?_, g4, fun a ha => ⟨(mem1 a).mpr ⟨(hM.2.2.2.1 a ha).1, hgt a ha⟩, (hM.2.2.2.1 a ha).2⟩, hM.2.2.2.2.1, hnd⟩⟩, ⟨hS.1, fun v hv => ?_, ?_, fun a ha => Nat.le_of_lt (hgt a ha)⟩, hlen, ht, by rw [e10]; exact hl, hc⟩, e10, g2 13 (by omega), g2 23 (by omega), g2 22 (by omega), fun a ha => g2 a (by unfold kc4 at ha; omega), ?_, fun Q2 hq => ?_⟩
  · exact pC_cg hC rfl (fun _ _ => rfl) (fun _ _ _ _ _ => rfl) (fun a ha => g2 a (by omega))
  · exact pR_cg hR (Nat.le_refl _) rfl (fun _ _ => rfl) (fun _ _ => rfl) (fun _ _ _ _ _ => rfl) (fun a h1 h2 => g2 a (by omega))
  · unfold pA
    rw [g2 20 (by omega), g2 21 (by omega), g2 0 (by omega)]
    exact hA
  · exact Nat.le_trans (List.length_filter_le _ _) hN
  · rw [hS.2.1 v hv, List.filter_filter]
    refine List.filter_congr (fun a ha => ?_)
    by_cases e : arr k a = v
    · rw [show (arr k a == v) = true by simp only [beq_iff_eq]; exact e, show decide (d < arr k a) = true by simp only [decide_eq_true_eq]; omega]
      rfl
    · rw [show (arr k a == v) = false by simp only [beq_eq_false_iff_ne]; exact e]
      rfl
  · rw [List.drop_length, List.filter_nil, List.filter_eq_nil_iff]
    intro a ha
    simp only [beq_iff_eq]
    have := hgt a ha
    omega
  · obtain ⟨b1, b2, b3, b4⟩ := hJ
    refine ⟨?_, ?_, ?_, ?_⟩
    · rw [g2 0 (by omega), g2 1 (by omega), g2 2 (by omega), g2 3 (by omega), g2 8 (by omega), g2 9 (by omega), g2 10 (by omega), g2 11 (by omega)]
      exact b1
    · rw [g2 4 (by omega)]
      exact b2
    · rw [g2 21 (by omega)]
      exact b3
    · rw [g2 12 (by omega), rnw_0]
      refine JD_mono b4 ?_ (Nat.le_refl _)
      have h1 := pnd_le (m := m) (lo := u0) d1 A.length 0
      have h2 : ct (k3 m) ([] : List Nat).length = 0 := rfl
      have h3 : ct (rnwB m u0) 0 = 0 := rfl
      rw [h2] at g5
      rw [h3, Nat.zero_add, Nat.zero_add] at h1
      rw [List.nil_append] at g5
      unfold rnw
      omega
  · exact hRR Q2 ⟨A.length + 1, g1 _ Q2 hq⟩


theorem J_begin {m : mS} {n r cc u d : Nat} (hJ : J m n r cc 0 u) : J (mQ (mset m 22 0 (nI d))) n r cc 0 u := by
  obtain ⟨b1, b2, b3, b4⟩ := hJ
  rw [rnw_0] at b4
  have e : ∀ a, a ≠ 21 → a ≠ 22 → mQ (mset m 22 0 (nI d)) a = m a := by
    intro a h1 h2
    unfold mQ
    split
    · exact (if_neg h1).trans (ms_c _ _ _ _ h2)
    · exact ms_c _ _ _ _ h2
  refine ⟨?_, ?_, ?_, ?_⟩
  · rw [e 0 (by decide) (by decide), e 1 (by decide) (by decide), e 2 (by decide) (by decide), e 3 (by decide) (by decide), e 8 (by decide) (by decide), e 9 (by decide) (by decide), e 10 (by decide) (by decide), e 11 (by decide) (by decide)]
    exact b1
  · rw [e 4 (by decide) (by decide)]
    exact b2
  · intro h hh
    unfold mQ
    split
    · refine Or.inl ?_
      show (if h < 6 then (0 : Int32) else _) = 0
      exact if_pos hh
    · exact b3 h hh
  · rw [e 12 (by decide) (by decide), rnw_0]
    have : ct (k3 (mQ (mset m 22 0 (nI d)))) u = ct (k3 m) u := ct_cg u (fun x _ => by unfold k3; rw [e 16 (by decide) (by decide)])
    rw [this]
    exact b4

theorem one_dayJ {S0 c n r d t cc : Nat} {k : kS} {m : mS} {ca ra : Nat → Nat} {A QC : List Nat} (h : RD c k m n r d t ca ra A QC) (hJ : J m n r cc 0 A.length) (hcc : cc ≤ 600) (hd1 : d + 1 ≤ 51200) (Q : Int32 → kS → Prop) (hQ : ∀ (kE : kS) (m1 : mS) (v : Int32) (tE : Nat) (A1 QC1 : List Nat), RD c kE m1 n r (d + 1) tE ca ra A1 QC1 → Pot m1 r = Pot (dayF r A.length 0 (mQ (mset m 22 0 (nI (d + 1))))) r → m1 23 = m 23 → J m1 n r cc 0 A1.length → GO r (m 10) (m1 10) → (∃ w, w ≤ 552 ∧ v = nI w) → (∀ a, kc4 a → m1 a = m a) → (∀ Q2 : Int32 → mS → Prop, Q2 v m1 → wX6_arriveAll (mQ (mset m 22 0 (nI (d + 1)))) Q2) → Q v kE) : wX5_arrivalsOfNextDay S0 (Pot m r - Pot (dayF r A.length 0 (mQ (mset m 22 0 (nI (d + 1))))) r) k Q := by
  obtain ⟨hcore, hS, hL1, hL3, hL4, hc⟩ := h
  have hcore' := hcore
  obtain ⟨⟨n1, n2, n3⟩, ⟨r1, r2, r3⟩, ⟨d1, d2, d3⟩, hC, hR, hA, hQ0, hM⟩ := hcore'
  have hW := hQ0.2.1
  have main : ∀ kx : kS, Core kx (mQ (mset m 22 0 (nI (d + 1)))) n r (d + 1) ca ra A QC (UB t) (EB c t) → arr kx = arr k → ∃ f, wX5_arrivalsOfNextDay_l39 S0 (Pot m r - Pot (dayF r A.length 0 (mQ (mset m 22 0 (nI (d + 1))))) r) Q f 0 0 (nI QC.length) 0 kx := by
    intro kx hcx harr
    have e10 : mQ (mset m 22 0 (nI (d + 1))) 10 = m 10 := by unfold mQ; split <;> rfl
    have e13 : mQ (mset m 22 0 (nI (d + 1))) 13 = m 13 := by unfold mQ; split <;> rfl
    have e23 : mQ (mset m 22 0 (nI (d + 1))) 23 = m 23 := by unfold mQ; split <;> rfl
    have ePot : Pot (mQ (mset m 22 0 (nI (d + 1)))) r = Pot m r := Pot_cg r (fun x _ => ⟨by rw [e10], by rw [e13]⟩)
    have hPd := Pot_day r A.length 0 (mQ (mset m 22 0 (nI (d + 1))))
    have hI : InD kx (mQ (mset m 22 0 (nI (d + 1)))) n r (d + 1) c t ca ra A QC 0 0 A.length QC.length := by
      refine ⟨hcx, srt_eq (srt_next hS) harr, ⟨Nat.zero_le _, Nat.le_refl _, by omega, Nat.le_refl _, hL1, hW⟩, by rw [e10]; exact hL4, fun x a hx ha => ?_, hc, by omega⟩
      rw [List.getElem?_eq_none hx] at ha
      cases ha
    refine ⟨QC.length + 1, ?_⟩
    refine day_loopJ A.length 0 0 kx _ t A QC (by omega) hI (J_begin hJ) hcc _ 0 (by omega) Q (fun kE tE AE QCE hE hJE hGE htE hRR => ?_) (QC.length + 1) (by omega)
    obtain ⟨m1, A1, g1, g2, g3, g4, g6, g8, g7, g5⟩ := day_endJ hE hJE (by omega) _ _ _ _ _ hRR
    have hdc := dayC_le r A.length 0 (mQ (mset m 22 0 (nI (d + 1))))
    refine hQ kE m1 _ tE A1 QCE g1 (Pot_cg r (fun x _ => ⟨by rw [g2], by rw [g3]⟩)) (by rw [g4, dayF_23, e23]) g7 (by rw [g2]; rw [e10] at hGE; exact hGE) ⟨_, by omega, rfl⟩ (fun a ha => by rw [g8 a ha, dayF_k r ha, mQ_k m _ ha]) (fun Q2 hq => ⟨A.length + 1, ?_⟩)
    rw [hcx.2.2.2.2.2.2.2.1]
    exact g5 Q2 hq
  unfold wX5_arrivalsOfNextDay
  rw [d2, nI_1]
  rintro k1 rfl
  have e2 : (kset k 2 0 (nI (d + 1))).1 2 0 = nI (d + 1) := upd_s (k.1 2) 0 (nI (d + 1))
  have e22 : mset m 22 0 (nI (d + 1)) 22 0 = nI (d + 1) := upd_s (m 22) 0 (nI (d + 1))
  rw [e2]
  have hq90 : nI (d + 1) - nI (d + 1) / 90 * 90 = q90 (nI (d + 1)) := rfl
  rw [hq90]
  by_cases h0 : q90 (nI (d + 1)) = 0
  · refine bi h0 (sx_quarter (fun f hf => ?_))
    show ∃ f40, wX5_arrivalsOfNextDay_l39 S0 _ Q f40 0 0 (k.1 3 0) 0 (kcol (kset k 2 0 (nI (d + 1))) 6 f)
    rw [hQ0.1]
    refine main _ ?_ rfl
    have eQ : mQ (mset m 22 0 (nI (d + 1))) = mZ (mset m 22 0 (nI (d + 1))) 6 := by unfold mQ; rw [e22, if_pos h0]
    rw [eQ]
    refine ⟨⟨n1, n2, n3⟩, ⟨r1, r2, r3⟩, ⟨e22, e2, hd1⟩, hC, hR, ⟨hA.1, hA.2.1, hA.2.2.1, fun x hx => ?_⟩, hQ0, hM⟩
    show (kcol (kset k 2 0 (nI (d + 1))) 6 f).1 6 x = mcol (mset m 22 0 (nI (d + 1))) 21 (fun h => if h < 6 then 0 else mset m 22 0 (nI (d + 1)) 21 h) 21 x
    rw [kcol_s, mcol_s, hf x hx]
    exact (if_pos hx).symm
  · refine bn h0 ?_
    show ∃ f20, wX5_arrivalsOfNextDay_l39 S0 _ Q f20 0 0 (k.1 3 0) 0 (kset k 2 0 (nI (d + 1)))
    rw [hQ0.1]
    refine main _ ?_ rfl
    have eQ : mQ (mset m 22 0 (nI (d + 1))) = mset m 22 0 (nI (d + 1)) := by unfold mQ; rw [e22, if_neg h0]
    rw [eQ]
    exact ⟨⟨n1, n2, n3⟩, ⟨r1, r2, r3⟩, ⟨e22, e2, hd1⟩, hC, hR, hA, hQ0, hM⟩

theorem pass_loopJ {S0 c n r P cc : Nat} {ca ra : Nat → Nat} (hP : P ≤ 100) (hcc : cc ≤ 600) (B : Nat) (Q : Int32 → kS → Prop) (QX : String → kS → Prop) : ∀ (y x : Nat) (s : Int32) (k : kS) (m : mS) (d t nc : Nat) (A QC : List Nat), x + y = P → RD c k m n r d t ca ra A QC → J m n r cc 0 A.length → (∃ w, w ≤ 552 * x ∧ s = nI w) → d + y ≤ 51200 → nc + Pot m r ≤ B → (∀ (kE : kS) (mE : mS) (vE : Int32) (tE : Nat) (AE QCE : List Nat), RD c kE mE n r (d + y) tE ca ra AE QCE → mE 23 = m 23 → J mE n r cc 0 AE.length → GO r (m 10) (mE 10) → (∃ w, w ≤ 552 * P ∧ vE = nI w) → (∀ a, kc4 a → mE a = m a) → (∀ Q2 : Int32 → mS → Prop, Q2 vE mE → wX6_pass_l29 (nI P) Q2 (y + 1) (nI x) s m) → Q vE kE) → wX5_pass_l25 S0 B (nI P) Q QX (y + 1) (nI x) s nc k := by
  intro y
  induction y with
  | zero =>
    intro x s k m d t nc A QC hx hRD hJ hs hd hB hQ
    obtain rfl : x = P := by omega
    unfold wX5_pass_l25
    refine ⟨by omega, fun _ => hQ k m s t A QC hRD rfl hJ (GO_rf hJ.1) hs (fun _ _ => rfl) (fun Q2 hq => ?_), fun e => absurd ((q_le (by omega) (by omega)).mpr (Nat.le_refl _)) e⟩
    unfold wX6_pass_l29
    exact ⟨fun _ => hq, fun e => absurd ((q_le (by omega) (by omega)).mpr (Nat.le_refl _)) e⟩
  | succ y ih =>
    intro x s k m d t nc A QC hx hRD hJ hs hd hB hQ
    have hne : ¬ nI P ≤ nI x := by rw [q_le (by omega) (by omega)]; omega
    have d1 : m 22 0 = nI d := hRD.1.2.2.1.1
    have hPd : Pot (dayF r A.length 0 (mQ (mset m 22 0 (nI (d + 1))))) r ≤ Pot m r := by
      refine Nat.le_trans (Pot_day r A.length 0 _) (Nat.le_of_eq (Pot_cg r (fun x _ => ?_)))
      unfold mQ
      split <;> exact ⟨rfl, rfl⟩
    unfold wX5_pass_l25
    refine ⟨by omega, bn hne ⟨_, ?_, one_dayJ hRD hJ hcc (by omega) _ (fun kE m1 v tE A1 QC1 hR1 hp1 h23 hJ1 hG1 hv1 hk1 hrun => ?_)⟩⟩
    · omega
    · rw [nI_1]
      refine ih (x + 1) (s + v) kE m1 (d + 1) tE _ A1 QC1 (by omega) hR1 hJ1 ?_ (by omega) (by omega) (fun kE2 mE2 vE2 tE2 AE2 QCE2 g1 g2 gJ gG gv gk g3 => ?_)
      · obtain ⟨w1, hw1, e1⟩ := hs
        obtain ⟨w2, hw2, e2⟩ := hv1
        exact ⟨w1 + w2, by omega, by rw [e1, e2, nI_add]⟩
      rw [show d + 1 + y = d + (y + 1) by omega] at g1
      refine hQ kE2 mE2 vE2 tE2 AE2 QCE2 g1 (by rw [g2, h23]) gJ (GO_tr hG1 gG) gv (fun a ha => (gk a ha).trans (hk1 a ha)) (fun Q2 hq => ?_)
      unfold wX6_pass_l29
      rw [d1, nI_1]
      refine bn hne ?_
      rintro m12 rfl
      refine ⟨7, sm_quarter (hrun _ ?_)⟩
      rw [nI_1]
      exact g3 Q2 hq

theorem op_passJ {S0 c cc n r : Nat} {k : kS} {m : mS} (p : Int32) (hc : c < 512) (h : Rel c k m) (n1 : m 7 0 = nI n) (r1 : m 15 0 = nI r) (hn20 : n ≤ 20) (hr40 : r ≤ 40) (hJ : J m n r cc 0 (i2n (m 19 0))) (hcc : cc ≤ 600) (Q : Int32 → kS → Prop) (QX : String → kS → Prop)
    (hQ : ∀ (k1 : kS) (v : Int32) (m1 : mS), Rel (c + 1) k1 m1 → m1 7 0 = nI n → m1 15 0 = nI r → J m1 n r cc 0 (i2n (m1 19 0)) → GO r (m 10) (m1 10) → (∃ w, w ≤ 60000 ∧ v = nI w) → (∃ d P, m 22 0 = nI d ∧ m1 22 0 = nI (d + P) ∧ 1 ≤ P ∧ d + P ≤ 60000) → m1 0 = m 0 → m1 1 = m 1 → m1 8 = m 8 → m1 9 = m 9 → Q v k1)
    (hX : Rel (c + 1) k (mset m 23 0 1) → QX "java/lang/IllegalArgumentException" k) : wX5_pass S0 601 k p Q QX := by
  have h' := h
  obtain ⟨n', r', d, t, ca, ra, A, QC, hcore, hS, hL1, hL2, hL3, hL4⟩ := h'
  obtain rfl : n = n' := (q_inj (by have := hcore.1.2.2; omega) (by omega) (hcore.1.1.symm.trans n1)).symm
  obtain rfl : r = r' := (q_inj (by have := hcore.2.1.2.2; omega) (by omega) (hcore.2.1.1.symm.trans r1)).symm
  have e19 : m 19 0 = nI A.length := hcore.2.2.2.2.2.2.2.1
  have hA3 := hcore.2.2.2.2.2.2.2.2.1
  have d1 := hcore.2.2.1.1
  rw [e19, i2n_q (by omega)] at hJ
  have one : (1 : Int32) = nI 1 := rfl
  have hun : (100 : Int32) = nI 100 := rfl
  rcases q_rng p 101 (by decide) with ⟨P, hP, rfl⟩ | ⟨hp, -⟩
  · by_cases h0 : P = 0
    · subst h0
      exact ⟨fun _ => ⟨by omega, hX (rel_thr h 1)⟩, fun e => absurd (by decide) e⟩
    · refine bn (by rw [one, q_lt (by omega) (by decide)]; omega) (bi (by rw [hun, q_le (by omega) (by decide)]; omega) ⟨P + 1, ?_⟩)
      have hpot := Pot_le (mset m 23 0 0) r
      have hR0 : RD c k (mset m 23 0 0) n r d t ca ra A QC := ⟨core_thr hcore (Nat.le_refl _) 0, hS, hL1, hL3, hL4, by omega⟩
      have hJ0 : J (mset m 23 0 0) n r cc 0 A.length := hJ
      refine pass_loopJ (n := n) (r := r) (ca := ca) (ra := ra) (by omega) hcc 601 Q QX P 0 0 k (mset m 23 0 0) d t 0 A QC (by omega) hR0 hJ0 ⟨0, by omega, rfl⟩ (by omega) (by omega) (fun kE mE vE tE AE QCE hE h23 hJE hGE hvE hkE hrun => ?_)
      obtain ⟨g1, g2, g3, g4, g5, g6⟩ := hE
      have g1' := g1
      obtain ⟨f1, f2, f3, f4, f5, f6, f7, f8⟩ := g1
      obtain ⟨w, hw, ew⟩ := hvE
      have e19E : mE 19 0 = nI AE.length := f8.1
      have hAE := f8.2.1
      refine hQ kE vE mE ?_ f1.1 f2.1 (by rw [e19E, i2n_q (by omega)]; exact hJE) hGE ⟨w, by omega, ew⟩ ⟨d, P, d1, f3.1, by omega, by have := f3.2.2; omega⟩ (hkE 0 (Or.inl rfl)) (hkE 1 (Or.inr (Or.inl rfl))) (hkE 8 (Or.inr (Or.inr (Or.inl rfl)))) (hkE 9 (Or.inr (Or.inr (Or.inr rfl))))
      exact ⟨n, r, d + P, tE, ca, ra, AE, QCE, ⟨f1, f2, f3, f4, f5, pA_mono f6 (EB_step c tE (x := 0) (by omega)), f7, f8⟩, g2, g3, by omega, g4, by omega⟩
  · refine ⟨fun _ => ⟨by omega, hX (rel_thr h 1)⟩, fun e1 => bn ?_ ⟨by omega, hX (rel_thr h 1)⟩⟩
    intro e
    rw [hun] at e
    rcases hp with hp | hp
    · rw [Int32.lt_iff_toInt_lt] at hp e1
      have z1 : (0 : Int32).toInt = 0 := rfl
      have z2 : (1 : Int32).toInt = 1 := rfl
      omega
    · rw [Int32.le_iff_toInt_le, q_ti (by decide)] at e hp
      omega

