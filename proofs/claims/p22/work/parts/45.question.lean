/-! PURE: a question arrives -/
def mAn (m : mS) (i j w z n u d : Nat) : mS := if m 2 j = m 0 j ∧ m 6 j = 0 then mSend (mSend (mset (mset m 2 j (-1)) 10 i 1) u 5 (nI i) (nI (d + wayN w z))) (u + 1) 0 (nI j) (nI (d + (z + 1))) else mEnd m i w n u d
def mAns (m : mS) (i : Nat) : mS := mAn m i (i2n (m 11 i)) (i2n (m 8 i)) (i2n (m 0 (i2n (m 11 i)))) (i2n (m 7 0)) (i2n (m 19 0)) (i2n (m 22 0))
def kB (k : kS) (c q : Nat) : kS := kset (kset k 23 q 1) 14 c 1
def mB (m : mS) (i j : Nat) : mS := mset (mset m 2 j (-1)) 10 i 1
theorem core_yes {k : kS} {m : mS} {n r d i j : Nat} {ca ra : Nat → Nat} {A QC : List Nat} {U E : Nat} (h : Core k m n r d ca ra A QC U E) (hi : i < r) (hj : j < n) (h11 : m 11 i = nI j) (h22 : k.2.1 22 (ra i) = some (ca j)) (hno : ∀ b, b ∈ QC → k.2.1 33 b ≠ some (ra i)) : Core (kB k (ca j) (ra i)) (mB m i j) n r d ca ra A QC U E := by
  obtain ⟨⟨n1, n2, n3⟩, g2, g3, hC, hR, hA, hQ, hM⟩ := h
  refine ⟨⟨n1, n2, n3⟩, g2, g3, ?_, ?_, hA, hQ, ?_⟩
  · refine pC_step hC n3 hj rfl rfl (fun a h1 h2 q hq => ?_) (fun a ha y hy => ?_) ?_
    · exact (ks_n _ _ _ _ hq).trans (congrFun (ks_c _ _ _ _ (show a ≠ 23 by omega)) q)
    · exact (congrFun (ms_c _ _ _ _ (show a ≠ 10 by omega)) y).trans (ms_n _ _ _ _ hy)
    · have m2 : mB m i j 2 j = -1 := by show upd (m 2) j (-1) j = _; exact upd_s _ _ _
      have k14 : (kB k (ca j) (ra i)).1 14 (ca j) = 1 := by show upd (k.1 14) (ca j) 1 (ca j) = _; exact upd_s _ _ _
      obtain ⟨w1, w2, w3, w4, w5, w6, w7, w8, w9, w10, w11, w12⟩ := (hC.1 j hj).2.2
      exact ⟨w1, w2, w3, w4, w5, w6, w7, Or.inr ⟨k14, m2⟩, w9, w10, w11, w12⟩
  · refine pR_step hR (Nat.le_refl _) hi rfl rfl (fun q hq => rfl) (fun a h1 h2 q hq => ?_) (fun a h1 h2 y hy => ?_) ?_
    · exact (congrFun (ks_c _ _ _ _ (show a ≠ 14 by omega)) q).trans (ks_n _ _ _ _ hq)
    · exact (ms_n _ _ _ _ hy).trans (congrFun (ms_c _ _ _ _ (show a ≠ 2 by omega)) y)
    · have m10 : mB m i j 10 i = 1 := by show upd (m 10) i 1 i = _; exact upd_s _ _ _
      have k23 : (kB k (ca j) (ra i)).1 23 (ra i) = 1 := by show upd (k.1 23) (ra i) 1 (ra i) = _; exact upd_s _ _ _
      obtain ⟨w1, w2, w3, w4, w5, w6, w7, w8, w9, w10, w11⟩ := (hR.1 i hi).2.2
      exact ⟨w1, w2, k23.trans m10.symm, w4, w5, w6, w7, w8, w9, w10, Or.inr ⟨j, hj, h11, h22, 1, by decide, m10⟩⟩
  · refine pM_live (k' := kB k (ca j) (ra i)) hM rfl rfl rfl rfl rfl (fun a h1 h2 => (ms_c _ _ _ _ (show a ≠ 10 by omega)).trans (ms_c _ _ _ _ (show a ≠ 2 by omega))) (List.Sublist.refl _) (fun b hb q hq => ?_)
    have e : q ≠ ra i := fun e => hno b hb (e ▸ hq)
    have := (hM.2.2.2.1 b hb).2 q hq
    have k23 : (kB k (ca j) (ra i)).1 23 q = k.1 23 q := by show upd (k.1 23) (ra i) 1 q = _; exact upd_n _ _ e
    rw [k23]
    exact this
theorem core_fail {k : kS} {m : mS} {n r d i : Nat} {ca ra : Nat → Nat} {A QC : List Nat} {U E : Nat} (h : Core k m n r d ca ra A QC U E) (hi : i < r) (hno : ∀ b, b ∈ QC → k.2.1 33 b ≠ some (ra i)) : Core (kFail k (ra i)) (mFail m i) n r d ca ra A QC U E := by
  obtain ⟨g1, g2, g3, hC, hR, hA, hQ, hM⟩ := h
  refine ⟨g1, g2, g3, hC, ?_, hA, hQ, ?_⟩
  · refine pR_step hR (Nat.le_refl _) hi rfl rfl (fun q hq => va_up_ne (k.2.1 22) none hq) (fun a h1 h2 q hq => ks_n (kptr k 22 (ra i) none) 23 (ra i) 5 hq) (fun a h1 h2 y hy => (ms_n _ _ _ _ hy).trans (ms_n _ _ _ _ hy)) ?_
    have m10 : mFail m i 10 i = 5 := by show upd (m 10) i 5 i = _; exact upd_s _ _ _
    have m11 : mFail m i 11 i = -1 := by show upd (m 11) i (-1) i = _; exact upd_s _ _ _
    have k23 : (kFail k (ra i)).1 23 (ra i) = 5 := by show upd (k.1 23) (ra i) 5 (ra i) = _; exact upd_s _ _ _
    have p22 : (kFail k (ra i)).2.1 22 (ra i) = none := va_up_self (k.2.1 22) (ra i) none
    obtain ⟨w1, w2, w3, w4, w5, w6, w7, w8, w9, w10, w11⟩ := (hR.1 i hi).2.2
    exact ⟨w1, w2, k23.trans m10.symm, w4, w5, w6, w7, w8, w9, w10, Or.inl ⟨m10, p22, m11⟩⟩
  · refine pM_live (k' := kFail k (ra i)) hM rfl rfl rfl rfl rfl (fun a h1 h2 => (ms_c _ _ _ _ (show a ≠ 10 by omega)).trans (ms_c _ _ _ _ (show a ≠ 11 by omega))) (List.Sublist.refl _) (fun b hb q hq => ?_)
    have e : q ≠ ra i := fun e => hno b hb (e ▸ hq)
    have := (hM.2.2.2.1 b hb).2 q hq
    have k23 : (kFail k (ra i)).1 23 q = k.1 23 q := by show upd (k.1 23) (ra i) 5 q = _; exact upd_n _ _ e
    have k22 : (kFail k (ra i)).2.1 22 q = k.2.1 22 q := va_up_ne (k.2.1 22) none e
    rw [k23, k22]
    exact this
theorem dv_ask {S0 : Nat} {k : kS} {m : mS} {n r d c t a i : Nat} {ca ra : Nat → Nat} {A QC : List Nat} (h : Arr1 k m n r d c t ca ra A QC a) (h33 : k.2.1 33 a = some (ra i)) (hi : i < r) (h30 : k.1 30 a = 2) :
    (∀ Q2 : mS → Prop, Q2 (mAns m i) → wX6_arrive m 2 (nI i) Q2) ∧ m 10 i = 0 ∧ (∃ v, v < 64 ∧ m 13 i = nI v ∧ (mAns m i 10 i = 1 ∨ mAns m i 10 i = 5 ∨ (mAns m i 10 i = 0 ∧ ∃ v', v' < 64 ∧ mAns m i 13 i = nI v' ∧ pop6 v' = pop6 v + 1))) ∧ (∀ x, x ≠ i → mAns m i 10 x = m 10 x ∧ mAns m i 13 x = m 13 x) ∧ (∀ (b : Nat), 2 ≤ b → ∀ (Q : kS → Prop), (∀ k', DPost k (mAns m i) n r d c t ca ra A QC k' → Q k') → wX5_deliver S0 b k a Q) := by
  obtain ⟨hcore, hlA, hc, hE, hl, hrow, hpair⟩ := h
  have hcore' := hcore
  obtain ⟨⟨n1, n2, n3⟩, ⟨r1, r2, r3⟩, ⟨d1, d2, d3⟩, hC, hR, hA, hQ, hM⟩ := hcore'
  have a3 := (hR.1 i hi).2.2
  have h23 : k.1 23 (ra i) = m 10 i := a3.2.2.1
  have hst : k.1 23 (ra i) = 0 ∧ k.2.1 32 a = k.2.1 22 (ra i) := by
    rcases hrow _ h33 with ⟨-, e1, e2⟩ | ⟨e, -⟩ | ⟨e, -⟩ | ⟨e | e, -⟩
    · exact ⟨e1, e2⟩
    · rw [h30] at e; exact absurd e (by decide)
    · rw [h30] at e; exact absurd e (by decide)
    · rw [h30] at e; exact absurd e (by decide)
    · rw [h30] at e; exact absurd e (by decide)
  have hm1 : m 10 i = 0 := h23.symm.trans hst.1
  obtain ⟨j, hj, e11, ep⟩ := row_cp a3 (by show m 10 i ≠ 5; rw [hm1]; decide)
  replace e11 : m 11 i = nI j := e11
  obtain ⟨w, hw, e8⟩ : ∃ h, h < 6 ∧ m 8 i = nI h := a3.2.2.2.2.2.2.1
  obtain ⟨v, hv, e13⟩ : ∃ v, v < 64 ∧ m 13 i = nI v := a3.2.2.2.2.2.2.2.2.1
  obtain ⟨z, hz, e0⟩ : ∃ h, h < 6 ∧ m 0 j = nI h := (hC.1 j hj).2.2.2.2.2.2.2.2.2.2.1
  have e20 : k.1 20 (ra i) = nI w := a3.1.trans e8
  have e11k : k.1 11 (ca j) = nI z := (hC.1 j hj).2.2.2.1.trans e0
  have hAs : Asks k m (ra i) i w v := ⟨a3.1, a3.2.1, a3.2.2.2.2.2.1, e8, hw, e13, hv⟩
  have hno := none_other (a := a) (fun b hb => (hM.2.2.2.1 b hb).2) hpair h33 (by rw [h30]; decide) (by rw [h30]; decide) (Or.inl hst.1)
  have hin : vp_in (nI i) 40 := q_in (by omega) (by decide)
  have hjn : vp_in (nI j) 20 := q_in (by omega) (by decide)
  have hg := Gr_le (upd (m 10) i 1) r
  have hG : Gr (upd (m 10) i 1) r = Gr (m 10) r + 1 := by
    have := Gr_set (m 10) i 1 r hi
    rw [hm1, show g1 0 = 0 by decide, show g1 1 = 1 by decide] at this
    omega
  have hwy := wayN_le hw hz
  have eM : mAns m i = mAn m i j w z n A.length d := by
    unfold mAns
    rw [e11, hM.1, d1, n1, e8, i2n_nI (show j < 1000000000 by omega), e0, i2n_nI (show z < 1000000000 by omega), i2n_nI (show A.length < 1000000000 by omega), i2n_nI (show d < 1000000000 by omega), i2n_nI (show n < 1000000000 by omega), i2n_nI (show w < 1000000000 by omega)]
  have hcore2 := core_mono hcore (U' := UB (t + 1)) (E' := EB c (t + 1)) (by rw [← UB_up]; omega) (by rw [← EB_up]; omega)
  obtain ⟨fy, fn⟩ := free2 (S0 := S0) (k := k) (m := m) hC n3 hj
  rw [eM]
  by_cases hf : m 2 j = m 0 j ∧ m 6 j = 0
  · have eA : mAn m i j w z n A.length d = mSend (mSend (mB m i j) A.length 5 (nI i) (nI (d + wayN w z))) (A.length + 1) 0 (nI j) (nI (d + (z + 1))) := if_pos hf
    rw [eA]
    have e10 : mSend (mSend (mB m i j) A.length 5 (nI i) (nI (d + wayN w z))) (A.length + 1) 0 (nI j) (nI (d + (z + 1))) 10 = upd (m 10) i 1 := rfl
    have e13' : mSend (mSend (mB m i j) A.length 5 (nI i) (nI (d + wayN w z))) (A.length + 1) 0 (nI j) (nI (d + (z + 1))) 13 = m 13 := rfl
    refine ⟨fun Q2 hq => ?_, hm1, ⟨v, hv, e13, Or.inl (by rw [e10]; exact upd_s _ _ _)⟩, fun x hx => ⟨by rw [e10]; exact upd_n _ _ hx, by rw [e13']⟩, fun b hb Q hq => ?_⟩
    · refine bi (by decide) (bi rfl ⟨hin, ?_⟩)
      rw [q_cl (show i < 1000000 by omega), e11]
      refine (fy hf).2.1 _ (b1 ⟨hjn, ?_⟩)
      rw [q_cl (show j < 1000000 by omega)]
      rintro m6 rfl
      refine ⟨hin, ?_⟩
      rintro m8 rfl
      refine sm_len (m := mB m i j) (by omega) (by omega) e11 hw hz e8 e0 ?_
      refine sm_send (m := mB m i j) hM.1 (by omega) d1 ?_
      refine sm_tell (m := mSend (mB m i j) A.length 5 (nI i) (nI (d + wayN w z))) (by omega) (a := z) e0 ?_
      refine sm_send (m := mSend (mB m i j) A.length 5 (nI i) (nI (d + wayN w z))) (u := A.length + 1) (d := d) ?_ (by omega) d1 hq
      show upd (m 19) 0 (nI (A.length + 1)) 0 = _
      exact upd_s _ _ _
    · refine sx_dv (hst.2.trans ep) h33 ⟨fun _ => ⟨by omega, ?_⟩, no_eq h30 (by decide), no_eq h30 (by decide), no_eq h30 (by decide), no_eq h30 (by decide), fun e => absurd h30 e.1⟩
      refine (fy hf).2.2 _ (b1 ?_)
      rintro k4 rfl k5 rfl
      show wX5_way S0 (kB k (ca j) (ra i)) ((kB k (ca j) (ra i)).1 20 (ra i)) ((kB k (ca j) (ra i)).1 11 (ca j)) _
      rw [show (kB k (ca j) (ra i)).1 20 (ra i) = nI w from e20, show (kB k (ca j) (ra i)).1 11 (ca j) = nI z from e11k]
      have hcB := core_yes hcore2 hi hj e11 ep hno
      have hsB : k.1 23 = k.1 23 := rfl
      refine sx_way hw hz (sx_send (k := kB k (ca j) (ra i)) hQ (by omega) (fun x hx => core_mem hcB (hM.2.2.2.1 x hx).1) d2 (by omega) (fun k1 q1 QC1 hs1 hi1 hp1 => ?_))
      have hc1 := core_send hcB hs1 hi1 hp1 (by omega) (by omega) (x := 5) (y := nI i) (Or.inr ⟨i, hi, rfl, rfl, Or.inr (Or.inr (Or.inr (Or.inl ⟨rfl, rfl⟩)))⟩) (fun q' e => by
        cases e
        refine Or.inr (Or.inl ⟨rfl, ?_, ep.symm⟩)
        show upd (k.1 23) (ra i) 1 (ra i) = _
        exact upd_s _ _ _) (fun b2 hb2 q' e1 e2 => by
        cases e1
        exact absurd e2 (hno b2 hb2))
      have hqc : ca j ≠ q1 := fun e => by
        have h1 := (hC.1 j hj).2.1
        have h2 := hs1.1
        rw [← e] at h2
        rw [show (kB k (ca j) (ra i)).2.2 (ca j) = k.2.2 (ca j) from rfl, h1] at h2
        exact absurd h2 (by decide)
      have e11k1 : k1.1 11 (ca j) = nI z := by rw [hs1.2.2.1 11 (ca j) (by decide) hqc]; exact e11k
      have hl1 := hi1.len
      refine sx_news e11k1 (sx_send (k := k1) hp1 (by omega) (fun x hx => core_mem hc1 (hc1.2.2.2.2.2.2.2.2.2.2.1 x hx).1) hc1.2.2.1.2.1 (by omega) (fun k2 q2 QC2 hs2 hi2 hp2 => hq k2 ?_))
      have hc2 := core_send hc1 hs2 hi2 hp2 (by omega) (by rw [List.length_append, List.length_singleton]; omega) (x := 0) (y := nI j) (Or.inl ⟨rfl, j, hj, rfl, rfl, Or.inr ⟨rfl, rfl⟩⟩) (fun q' e => (nomatch e)) (fun _ _ _ e => (nomatch e))
      rw [List.length_append, List.length_singleton] at hc2
      have hl2 := hi2.len
      have ha1 := sent_arr hcB hs1
      have ha2 := sent_arr hc1 hs2
      have hq1 : arr k1 q1 = d + wayN w z := by unfold arr; rw [hs1.2.2.2.2.2.2.2.2.1, q_cl (by omega)]
      have hq2 : arr k2 q2 = d + (z + 1) := by unfold arr; rw [hs2.2.2.2.2.2.2.2.2.1, q_cl (by omega)]
      refine ⟨[q1, q2], QC2, by rw [show A ++ [q1, q2] = A ++ [q1] ++ [q2] by simp]; exact hc2, by simp, ?_, fun x hx => ?_, fun x hx => ?_, fun y hy hS => ?_⟩
      · rw [e10, hG, hl2, hl1]; omega
      · rw [ha2 x (List.mem_append_left _ hx), ha1 x hx]; rfl
      · rcases List.mem_cons.mp hx with e | hx
        · rw [e, ha2 q1 (List.mem_append_right _ List.mem_cons_self), hq1]; omega
        · rw [List.mem_singleton.mp hx, hq2]; omega
      · rw [show A ++ [q1, q2] = A ++ [q1] ++ [q2] by simp]
        have s1 := srt_send hcB hs1 hi1 (by omega) (by omega) hy (srt_eq hS rfl)
        exact srt_send hc1 hs2 hi2 (by omega) (by omega) (by rw [List.length_append]; omega) s1
  · have eA : mAn m i j w z n A.length d = mEnd m i w n A.length d := if_neg hf
    rw [eA]
    have HF := core_fail hcore2 hi hno
    have hE := ask_both (S0 := S0) HF hi hst.1 hAs (by omega) (by omega)
    have hm := ask_m (k := k) (k2 := k) hC n1 n3 (by omega) hAs hM.1 (show A.length < 4000 by omega) d1
    have hF10 : Gr (upd (m 10) i 5) r = Gr (m 10) r := by
      have := Gr_set (m 10) i 5 r hi
      rw [hm1, show g1 0 = 0 by decide, show g1 5 = 0 by decide] at this
      omega
    have hF0 : Gr (upd (m 10) i 0) r = Gr (m 10) r := by
      have := Gr_set (m 10) i 0 r hi
      rw [hm1, show g1 0 = 0 by decide] at this
      omega
    have hshape : (∃ v, v < 64 ∧ m 13 i = nI v ∧ (mEnd m i w n A.length d 10 i = 1 ∨ mEnd m i w n A.length d 10 i = 5 ∨ (mEnd m i w n A.length d 10 i = 0 ∧ ∃ v', v' < 64 ∧ mEnd m i w n A.length d 13 i = nI v' ∧ pop6 v' = pop6 v + 1))) ∧ (∀ x, x ≠ i → mEnd m i w n A.length d 10 x = m 10 x ∧ mEnd m i w n A.length d 13 x = m 13 x) := by
      rcases hE with ⟨e1, -⟩ | ⟨b, w2, v', e1, -, -, g1, g2, g3, -⟩
      · rw [e1]
        refine ⟨⟨v, hv, e13, Or.inr (Or.inl ?_)⟩, fun x hx => ⟨?_, rfl⟩⟩
        · show upd (m 10) i 5 i = _
          exact upd_s _ _ _
        · show upd (m 10) i 5 x = _
          exact upd_n _ _ hx
      · rw [e1]
        refine ⟨⟨v, hv, e13, Or.inr (Or.inr ⟨?_, v', g2, g1, g3⟩)⟩, fun x hx => ⟨?_, ?_⟩⟩
        · show upd (m 10) i 0 i = _
          exact upd_s _ _ _
        · show upd (m 10) i 0 x = _
          exact upd_n _ _ hx
        · show upd (m 13) i _ x = _
          exact upd_n _ _ hx
    refine ⟨fun Q2 hq => ?_, hm1, hshape.1, hshape.2, fun b hb Q hq => ?_⟩
    · refine bi (by decide) (bi rfl ⟨hin, ?_⟩)
      rw [q_cl (show i < 1000000 by omega), e11]
      exact (fn hf).1 _ (b0 (hm _ hq))
    · refine sx_dv (hst.2.trans ep) h33 ⟨fun _ => ⟨by omega, ?_⟩, no_eq h30 (by decide), no_eq h30 (by decide), no_eq h30 (by decide), no_eq h30 (by decide), fun e => absurd h30 e.1⟩
      refine (fn hf).2 _ (b0 ?_)
      rcases hE with ⟨e1, hE⟩ | ⟨b, w2, v', e1, hw1, hw2, -, -, -, hE⟩
      · refine hE _ (hq _ ?_)
        rw [e1]
        exact dpost_nil (k' := kFail k (ra i)) HF rfl (show QC.length ≤ c + Gr (upd (m 10) i 5) r by rw [hF10]; omega)
      · refine hE _ (fun k' q' QC' hC' hlen harr' hsame hsrt => hq _ ?_)
        refine ⟨[q'], QC', hC', by simp, ?_, hsame, fun x hx => ?_, hsrt⟩
        · rw [hlen, e1]
          show _ ≤ c + Gr (upd (m 10) i 0) r
          rw [hF0]
          exact hl
        · rw [List.mem_singleton.mp hx, harr']; omega
