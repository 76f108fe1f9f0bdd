/-! PURE: a copy comes home; a question arrives -/
theorem free2 {S0 : Nat} {k : kS} {m : mS} {n : Nat} {ca : Nat → Nat} (hC : pC k m n ca) (hn : n ≤ 20) {i : Nat} (hi : i < n) :
    (m 2 i = m 0 i ∧ m 6 i = 0 → (k.1 13 (ca i) = k.1 11 (ca i) ∧ k.1 14 (ca i) = 0) ∧ (∀ Q2 : Int32 → mS → Prop, Q2 1 m → wX6_free m (nI i) Q2) ∧ (∀ Q : Int32 → kS → Prop, Q 1 k → wX1_canBeSent S0 k (ca i) Q)) ∧ (¬ (m 2 i = m 0 i ∧ m 6 i = 0) → (∀ Q2 : Int32 → mS → Prop, Q2 0 m → wX6_free m (nI i) Q2) ∧ (∀ Q : Int32 → kS → Prop, Q 0 k → wX1_canBeSent S0 k (ca i) Q)) := by
  have hah := at_home hC hi
  have h17 : k.1 17 (ca i) = m 6 i := (hC.1 i hi).2.2.2.2.2.2.2.2.1
  have hin : vp_in (nI i) 20 := q_in (by omega) (by decide)
  refine ⟨fun h => ⟨hah.mpr h.1, fun Q2 q => ⟨hin, hin, ?_⟩, fun Q q => at_home_y (hah.mpr h.1) (b1 (bi (h17.trans h.2) q))⟩, fun h => ⟨fun Q2 q => ⟨hin, hin, ?_⟩, fun Q q => ?_⟩⟩
  · rw [q_cl (by omega)]
    exact bi h.1 ⟨hin, bi h.2 q⟩
  · rw [q_cl (by omega)]
    exact ⟨fun e => ⟨hin, bn (fun e2 => h ⟨e, e2⟩) q⟩, fun _ => q⟩
  · by_cases e : m 2 i = m 0 i
    · exact at_home_y (hah.mpr e) (b1 (bn (fun e2 => h ⟨e, h17.symm.trans e2⟩) q))
    · exact at_home_n (fun e2 => e (hah.mp e2)) (b0 q)
def kH (k : kS) (c q z : Nat) : kS := kset (kset (kset k 13 c (nI z)) 14 c 0) 23 q 4
def mH (m : mS) (i j z : Nat) : mS := mset (mset (mset m 2 j (nI z)) 3 j (nI z)) 10 i 4
def mHom (m : mS) (i j z u d : Nat) : mS := if mFind (mH m i j z) j 2 j = mFind (mH m i j z) j 0 j ∧ mFind (mH m i j z) j 6 j = 0 then mSend (mFind (mH m i j z) j) u 1 (nI j) (nI (d + (z + 1))) else mFind (mH m i j z) j
def mHome (m : mS) (i : Nat) : mS := mHom m i (i2n (m 11 i)) (i2n (m 0 (i2n (m 11 i)))) (i2n (m 19 0)) (i2n (m 22 0))
theorem core_home {k : kS} {m : mS} {n r d i j z : Nat} {ca ra : Nat → Nat} {A QC : List Nat} {U E : Nat} (h : Core k m n r d ca ra A QC U E) (hi : i < r) (hj : j < n) (hz : z < 6) (h0 : m 0 j = nI z) (h11 : m 11 i = nI j) (h22 : k.2.1 22 (ra i) = some (ca j)) (hoth : ∀ b, b ∈ QC → k.2.1 33 b = some (ra i) → k.1 30 b = 5 ∨ k.1 30 b = 6) : Core (kH k (ca j) (ra i) z) (mH m i j z) n r d ca ra A QC U E := by
  obtain ⟨⟨n1, n2, n3⟩, g2, g3, hC, hR, hA, hQ, hM⟩ := h
  refine ⟨⟨n1, n2, n3⟩, g2, g3, ?_, ?_, hA, hQ, ?_⟩
  · refine pC_step hC n3 hj rfl rfl (fun a h1 h2 q hq => ?_) (fun a ha y hy => ?_) ?_
    · exact (congrFun (ks_c _ _ _ _ (show a ≠ 23 by omega)) q).trans ((ks_n _ _ _ _ hq).trans (ks_n _ _ _ _ hq))
    · exact (congrFun (ms_c _ _ _ _ (show a ≠ 10 by omega)) y).trans ((ms_n _ _ _ _ hy).trans (ms_n _ _ _ _ hy))
    · have m2 : mH m i j z 2 j = nI z := by show upd (m 2) j (nI z) j = _; exact upd_s _ _ _
      have m3 : mH m i j z 3 j = nI z := by show upd (m 3) j (nI z) j = _; exact upd_s _ _ _
      have k13 : (kH k (ca j) (ra i) z).1 13 (ca j) = nI z := by show upd (k.1 13) (ca j) (nI z) (ca j) = _; exact upd_s _ _ _
      have k14 : (kH k (ca j) (ra i) z).1 14 (ca j) = 0 := by show upd (k.1 14) (ca j) 0 (ca j) = _; exact upd_s _ _ _
      obtain ⟨w1, w2, w3, w4, w5, w6, w7, w8, w9, w10, w11, w12⟩ := (hC.1 j hj).2.2
      exact ⟨w1, w2, w3, k13.trans m3.symm, w5, w6, w7, Or.inl ⟨k14, m2.trans m3.symm⟩, w9, ⟨z, hz, m3⟩, w11, w12⟩
  · refine pR_step hR (Nat.le_refl _) hi rfl rfl (fun q hq => rfl) (fun a h1 h2 q hq => ?_) (fun a h1 h2 y hy => ?_) ?_
    · exact (ks_n _ _ _ _ hq).trans (congrFun ((ks_c _ _ _ _ (show a ≠ 14 by omega)).trans (ks_c _ _ _ _ (show a ≠ 13 by omega))) q)
    · exact (ms_n _ _ _ _ hy).trans (congrFun ((ms_c _ _ _ _ (show a ≠ 3 by omega)).trans (ms_c _ _ _ _ (show a ≠ 2 by omega))) y)
    · have m10 : mH m i j z 10 i = 4 := by show upd (m 10) i 4 i = _; exact upd_s _ _ _
      have k23 : (kH k (ca j) (ra i) z).1 23 (ra i) = 4 := by show upd (k.1 23) (ra i) 4 (ra i) = _; exact upd_s _ _ _
      obtain ⟨w1, w2, w3, w4, w5, w6, w7, w8, w9, w10, w11⟩ := (hR.1 i hi).2.2
      exact ⟨w1, w2, k23.trans m10.symm, w4, w5, w6, w7, w8, w9, w10, Or.inr ⟨j, hj, h11, h22, 4, by decide, m10⟩⟩
  · refine pM_live (k' := kH k (ca j) (ra i) z) hM rfl rfl rfl rfl rfl (fun a h1 h2 => (ms_c _ _ _ _ (show a ≠ 10 by omega)).trans ((ms_c _ _ _ _ (show a ≠ 3 by omega)).trans (ms_c _ _ _ _ (show a ≠ 2 by omega)))) (List.Sublist.refl _) (fun b hb q hq => ?_)
    by_cases e : q = ra i
    · have h56 := hoth b hb (show k.2.1 33 b = some (ra i) from e ▸ hq)
      refine Or.inr (Or.inr (Or.inr ⟨h56, Or.inr (Or.inr ?_)⟩))
      rw [e]
      show upd (k.1 23) (ra i) 4 (ra i) = _
      exact upd_s _ _ _
    · have := (hM.2.2.2.1 b hb).2 q hq
      have k23 : (kH k (ca j) (ra i) z).1 23 q = k.1 23 q := by show upd (k.1 23) (ra i) 4 q = _; exact upd_n _ _ e
      rw [k23]
      exact this
theorem found_arr {k k1 : kS} {m m1 : mS} {i c : Nat} (h : Found k k1 m m1 i c) : arr k1 = arr k := by
  funext x
  unfold arr
  rw [h.1 31 (by decide) (by decide)]
theorem srt_eq {k k' : kS} {A QC : List Nat} {d j : Nat} (h : Srt k A QC d j) (e : arr k' = arr k) : Srt k' A QC d j := by
  unfold Srt
  rw [e]
  exact h
/-- one is sent on a day -/
theorem dpost_one {S0 : Nat} {k kb : kS} {mb : mS} {n r d c t w c1 : Nat} {ca ra : Nat → Nat} {A QC : List Nat} {x y kind : Int32} {a4 : Option Nat} {Q : Int32 → kS → Prop} (h : Core kb mb n r d ca ra A QC (UB (t + 1)) (EB c (t + 1))) (harr : arr kb = arr k) (hA : A.length + 2 ≤ 3000) (hl : QC.length < 552) (hl2 : QC.length + 1 ≤ c + Gr (mb 10) r) (hw : 1 ≤ w ∧ w ≤ 6) (hok : mOK n r ca ra x y kind c1 a4) (hlive : ∀ q', a4 = some q' → lOK kb kind c1 q') (hpair : ∀ b, b ∈ QC → ∀ q', a4 = some q' → kb.2.1 33 b = some q' → (kind = 5 ∨ kind = 6 ∨ kb.1 30 b = 5 ∨ kb.1 30 b = 6)) (hq : ∀ k', DPost k (mSend mb A.length x y (nI (d + w))) n r d c t ca ra A QC k' → Q (nI (d + w)) k') : wX5_send S0 kb kind (nI w) c1 a4 Q := by
  have h' := h
  obtain ⟨-, -, ⟨d1, d2, d3⟩, hC, hR, hA', hQ, hM⟩ := h'
  refine sx_send hQ hl (fun a ha => core_mem h (hM.2.2.2.1 a ha).1) d2 (by omega) (fun k' q QC' hs hi hp => hq k' ?_)
  refine ⟨[q], QC', core_send h hs hi hp (by omega) (by omega) hok hlive hpair, by simp, ?_, fun x hx => ?_, fun x hx => ?_, fun j hj hS => srt_send h hs hi (by omega) (by omega) hj (srt_eq hS harr)⟩
  · rw [hi.len]; exact hl2
  · rw [sent_arr h hs x hx, harr]
  · rw [List.mem_singleton] at hx
    rw [hx]
    unfold arr
    rw [hs.2.2.2.2.2.2.2.2.1, q_cl (by omega)]
    omega
theorem dv_home {S0 : Nat} {k : kS} {m : mS} {n r d c t a i : Nat} {ca ra : Nat → Nat} {A QC : List Nat} (h : Arr1 k m n r d c t ca ra A QC a) (h33 : k.2.1 33 a = some (ra i)) (hi : i < r) (h30 : k.1 30 a = 4) :
    (∀ Q2 : mS → Prop, Q2 (mHome m i) → wX6_arrive m 5 (nI i) Q2) ∧ m 10 i = 3 ∧ (∀ (b : Nat), 1 ≤ b → ∀ (Q : kS → Prop), (∀ k', DPost k (mHome m i) n r d c t ca ra A QC k' → Q k') → wX5_deliver S0 b k a Q) := by
  obtain ⟨hcore, hlA, hc, hE, hl, hrow, hpair⟩ := h
  have hcore' := hcore
  obtain ⟨⟨n1, n2, n3⟩, ⟨r1, r2, r3⟩, ⟨d1, d2, d3⟩, hC, hR, hA, hQ, hM⟩ := hcore'
  have a3 := (hR.1 i hi).2.2
  have h23 : k.1 23 (ra i) = m 10 i := a3.2.2.1
  have hst : k.1 23 (ra i) = 3 ∧ k.2.1 32 a = k.2.1 22 (ra i) := by
    rcases hrow _ h33 with ⟨e, -⟩ | ⟨e, -⟩ | ⟨-, e1, e2⟩ | ⟨e | e, -⟩
    · rw [h30] at e; exact absurd e (by decide)
    · rw [h30] at e; exact absurd e (by decide)
    · exact ⟨e1, e2⟩
    · rw [h30] at e; exact absurd e (by decide)
    · rw [h30] at e; exact absurd e (by decide)
  have hm1 : m 10 i = 3 := h23.symm.trans hst.1
  obtain ⟨j, hj, e11, ep⟩ := row_cp a3 (by show m 10 i ≠ 5; rw [hm1]; decide)
  replace e11 : m 11 i = nI j := e11
  obtain ⟨w, hw, e8⟩ : ∃ h, h < 6 ∧ m 8 i = nI h := a3.2.2.2.2.2.2.1
  obtain ⟨z, hz, e0⟩ : ∃ h, h < 6 ∧ m 0 j = nI h := (hC.1 j hj).2.2.2.2.2.2.2.2.2.2.1
  have e11k : k.1 11 (ca j) = nI z := (hC.1 j hj).2.2.2.1.trans e0
  have hoth := others hpair h33 (by rw [h30]; decide) (by rw [h30]; decide)
  have hin : vp_in (nI i) 40 := q_in (by omega) (by decide)
  have hjn : vp_in (nI j) 20 := q_in (by omega) (by decide)
  have hg := Gr_le (m 10) r
  have eM : mHome m i = mHom m i j z A.length d := by
    unfold mHome
    rw [e11, hM.1, d1, i2n_nI (show j < 1000000000 by omega), e0, i2n_nI (show z < 1000000000 by omega), i2n_nI (show A.length < 1000000000 by omega), i2n_nI (show d < 1000000000 by omega)]
  have hcH := core_home hcore hi hj hz e0 e11 ep hoth
  obtain ⟨v, k1, m1, em1, hF, hA1, f6, f5⟩ := find_both (S0 := S0) (k := kH k (ca j) (ra i) z) (m := mH m i j z) hcH.2.2.2.1 n3 hcH.2.2.2.2.2.1 (by omega) hj
  have hcF := core_found hcH hF hj (pA_mono hA1 (E' := EB c (t + 1)) (by rw [← EB_up]; omega))
  have hcF' := core_mono hcF (U' := UB (t + 1)) (E' := EB c (t + 1)) (by rw [← UB_up]; omega) (Nat.le_refl _)
  have harr : arr k1 = arr k := (found_arr hF).trans (show arr (kH k (ca j) (ra i) z) = arr k from rfl)
  have hG : Gr (m1 10) r = Gr (m 10) r := by
    rw [hF.2.2.1 10 (by decide) (by decide)]
    show Gr (upd (m 10) i 4) r = _
    have := Gr_set (m 10) i 4 r hi
    rw [hm1, show g1 3 = 1 by decide, show g1 4 = 1 by decide] at this
    omega
  have hm0 : m1 0 j = nI z := by rw [hF.2.2.1 0 (by decide) (by decide)]; exact e0
  have hk11 : k1.1 11 (ca j) = nI z := by rw [hF.1 11 (by decide) (by decide)]; exact e11k
  have hu1 : m1 19 0 = nI A.length := hcF.2.2.2.2.2.2.2.1
  have hd1 : m1 22 0 = nI d := hcF.2.2.1.1
  obtain ⟨fy, fn⟩ := free2 (S0 := S0) (k := k1) (m := m1) hcF.2.2.2.1 n3 hj
  have eH : mHom m i j z A.length d = if m1 2 j = m1 0 j ∧ m1 6 j = 0 then mSend m1 A.length 1 (nI j) (nI (d + (z + 1))) else m1 := by
    unfold mHom
    rw [← em1]
  refine ⟨fun Q2 hq => ?_, hm1, fun b hb Q hq => ?_⟩
  · rw [eM, eH] at hq
    refine bi (by decide) (bn (by decide) (bn (by decide) (bn (by decide) ⟨hin, hin, hin, ?_⟩)))
    rw [q_cl (show i < 1000000 by omega), e11, q_cl (show j < 1000000 by omega)]
    refine bn (by rw [hm1]; decide) ⟨hjn, hjn, ?_⟩
    rw [e0]
    rintro m7 rfl
    refine ⟨hjn, hjn, ?_⟩
    rw [show mset m 2 j (nI z) 0 j = nI z from e0]
    rintro m10 rfl
    refine ⟨hin, ?_⟩
    rintro m12 rfl
    refine f6 _ ?_
    by_cases hf : m1 2 j = m1 0 j ∧ m1 6 j = 0
    · rw [if_pos hf] at hq
      refine (fy hf).2.1 _ (b1 (sm_tell (by omega) hm0 (sm_send hu1 (by omega) hd1 hq)))
    · rw [if_neg hf] at hq
      exact (fn hf).1 _ (b0 hq)
  · rw [eM, eH] at hq
    refine sx_dv (hst.2.trans ep) h33 ⟨no_eq h30 (by decide), no_eq h30 (by decide), fun _ => ⟨by omega, ?_⟩, no_eq h30 (by decide), no_eq h30 (by decide), fun e => absurd h30 e.2.2.1⟩
    unfold wX5_comeHome
    rw [e11k]
    rintro k1' rfl k2' rfl k3' rfl
    refine f5 _ ?_
    by_cases hf : m1 2 j = m1 0 j ∧ m1 6 j = 0
    · rw [if_pos hf] at hq
      refine (fy hf).2.2 _ (b1 (sx_news hk11 ?_))
      exact dpost_one (k := k) (Q := fun _ k1 => Q k1) hcF' harr hlA (by omega) (by rw [hG]; exact hl) (by omega) (Or.inl ⟨rfl, j, hj, rfl, rfl, Or.inl ⟨rfl, rfl⟩⟩) (fun q' e => (nomatch e)) (fun _ _ _ e => (nomatch e)) hq
    · rw [if_neg hf] at hq
      exact (fn hf).2 _ (b0 (hq k1 (dpost_nil hcF' harr (by rw [hG]; omega))))
