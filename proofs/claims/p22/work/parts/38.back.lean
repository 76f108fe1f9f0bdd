/-! PURE: sendBack, mend -/
theorem owed_c (m : mS) (a b : Nat) (s : Int32) {x : Nat} (h : x ≠ 20) : owed m a b s x = m x := (ms_c _ _ _ _ h).trans (ms_c _ _ _ _ h)
theorem chg_c (k : kS) (a b : Nat) (s : Int32) {x : Nat} (h : x ≠ 4) : (chg k a b s).1 x = k.1 x := ks_c _ _ _ _ h
theorem q_pos (x : Int32) : 0 < x ↔ 0 < x.toInt := by rw [Int32.lt_iff_toInt_lt]; exact Iff.rfl
theorem late_i {d u : Nat} (hd : d < 1000000000) (hu : u < 1000000000) : (if 0 < (nI d - nI u) then (nI d - nI u) else 0) = nI (d - u) := by
  have h : (nI d - nI u).toInt = (d : Int) - u := by rw [q_sub (by rw [q_ti hd, q_ti hu]; omega) (by rw [q_ti hd, q_ti hu]; omega), q_ti hd, q_ti hu]
  by_cases e : u < d
  · rw [if_pos (by rw [q_pos, h]; omega)]
    have : nI d = nI (d - u) + nI u := by rw [nI_add]; congr 1; omega
    rw [this]; grind
  · rw [if_neg (by rw [q_pos, h]; omega), show d - u = 0 by omega]; rfl
theorem late_j {d u : Nat} (hd : d < 1000000000) (hu : u < 1000000000) (e : ¬ nI d ≤ nI u) : nI d - nI u = nI (d - u) := by
  rw [q_le hd hu] at e
  have : nI d = nI (d - u) + nI u := by rw [nI_add]; congr 1; omega
  rw [this]; grind
def g1 (x : Int32) : Nat := if x = 1 ∨ x = 2 ∨ x = 3 ∨ x = 4 then 1 else 0
theorem Gr_set (f : Nat → Int32) (i : Nat) (v : Int32) : ∀ n, i < n → Gr (upd f i v) n + g1 (f i) = Gr f n + g1 v := by
  intro n
  induction n with
  | zero => intro h; omega
  | succ n ih =>
    intro h
    show Gr (upd f i v) n + g1 (upd f i v n) + g1 (f i) = Gr f n + g1 (f n) + g1 v
    by_cases e : i = n
    · subst e
      rw [upd_s, Gr_cg (f := upd f i v) (g := f) i (fun j hj => upd_n _ _ (by omega))]
      omega
    · rw [upd_n _ _ (show n ≠ i by omega)]
      have := ih (by omega)
      omega
theorem UB_lt {c t d : Nat} (hc : c ≤ 512) (hd : d ≤ 100 * c) (ht : t ≤ 552 * d) : UB t < 1000000000 := by unfold UB; omega
theorem sm_tell {m : mS} {i a : Nat} {x : Int32} {Q : mS → Prop} (hi : i < 20) (h0 : m 0 i = nI a) (q : wX6_send m x (nI i) (nI (a + 1)) (fun _ m1 => Q m1)) : wX6_tell m (nI i) x Q := by
  refine ⟨q_in hi (by decide), ?_⟩
  rw [q_cl (by omega), h0, nI_1]
  exact q
theorem sx_news {S0 : Nat} {k : kS} {c a : Nat} {kind : Int32} {Q : kS → Prop} (h : k.1 11 c = nI a) (q : wX5_send S0 k kind (nI (a + 1)) c none (fun _ k1 => Q k1)) : wX5_sendNews S0 k kind c Q := by
  unfold wX5_sendNews wX5_wayToList
  rw [h, nI_1]
  exact q
theorem op_sendBack {S0 c : Nat} {k : kS} {m : mS} (p : Int32) (hc : c < 512) (h : Rel c k m) : OpI (Rel (c + 1)) "java/lang/IndexOutOfBoundsException" (wX6_sendBack m p) (wX5_sendBack S0 k p) := by
  have h' := h
  obtain ⟨n, r, d, t, ca, ra, A, QC, hcore, hS, hL1, hL2, hL3, hL4⟩ := h'
  have hcore' := hcore
  obtain ⟨⟨n1, n2, n3⟩, ⟨c1, c2, c3⟩, ⟨d1, d2, d3⟩, hC, hR, hA, hQ, hM⟩ := hcore'
  rcases q_rng p r (by omega) with ⟨i, hi, rfl⟩ | ⟨hp, -⟩
  · obtain ⟨a1, a2, a3⟩ := hR.1 i hi
    have h23 : k.1 23 (ra i) = m 10 i := a3.2.2.1
    have h24 : k.1 24 (ra i) = m 12 i := a3.2.2.2.1
    have hin : vp_in (nI i) 40 := q_in (by omega) (by decide)
    by_cases h2 : m 10 i = 2
    · obtain ⟨j, hj, e11, ep⟩ := row_cp a3 (by show m 10 i ≠ 5; rw [h2]; decide)
      replace e11 : m 11 i = nI j := e11
      obtain ⟨x1, hx1, e8⟩ : ∃ h, h < 6 ∧ m 8 i = nI h := a3.2.2.2.2.2.2.1
      obtain ⟨u, hu, e12⟩ : ∃ u, u ≤ UB t ∧ m 12 i = nI u := a3.2.2.2.2.2.2.2.2.2.1
      obtain ⟨b1', b2', b3'⟩ := hC.1 j hj
      obtain ⟨x2, hx2, e0⟩ : ∃ h, h < 6 ∧ m 0 j = nI h := b3'.2.2.2.2.2.2.2.2.1
      have e20 : k.1 20 (ra i) = nI x1 := a3.1.trans e8
      have e11k : k.1 11 (ca j) = nI x2 := b3'.2.1.trans e0
      have hU := UB_lt (c := c) (by omega) hL2 hL3
      have hEl := EB_lt (c := c) (t := t) (d := d) (by omega) hL2 hL3
      have hjn : vp_in (nI j) 20 := q_in (by omega) (by decide)
      have hst : (nI (d - u)).toInt = ((d - u : Nat) : Int) := q_ti (by omega)
      have hA1 : pA (chg k x1 x2 (nI (d - u))) (owed (mset m 23 0 0) x1 x2 (nI (d - u))) n (EB c t + 100000) := pA_charge (k := k) (m := mset m 23 0 0) hA hx1 hx2 (by rw [hst]; omega) (by rw [hst]; omega) (by omega)
      have hpC1 : pC (kset (kset (chg k x1 x2 (nI (d - u))) 23 (ra i) 3) 14 (ca j) 1) (mset (mset (owed (mset m 23 0 0) x1 x2 (nI (d - u))) 10 i 3) 2 j (-1)) n ca := by
        refine pC_step hC n3 hj rfl rfl (fun a h1 h2 q hq => (ks_n _ _ _ _ hq).trans (congrFun ((ks_c _ _ _ _ (show a ≠ 23 by omega)).trans (chg_c _ _ _ _ (by omega))) q)) (fun a ha y hy => (ms_n _ _ _ _ hy).trans (congrFun ((ms_c _ _ _ _ (show a ≠ 10 by omega)).trans ((owed_c _ _ _ _ (by omega)).trans (ms_c _ _ _ _ (show a ≠ 23 by omega)))) y)) ?_
        have e2 : mset (mset (owed (mset m 23 0 0) x1 x2 (nI (d - u))) 10 i 3) 2 j (-1) 2 j = -1 := upd_s _ _ _
        have e14 : (kset (kset (chg k x1 x2 (nI (d - u))) 23 (ra i) 3) 14 (ca j) 1).1 14 (ca j) = 1 := upd_s _ _ _
        obtain ⟨w1, w2, w3, w4, w5, w6, w7, w8, w9, w10, w11, w12⟩ := b3'
        exact ⟨w1, w2, w3, w4, w5, w6, w7, Or.inr ⟨e14, e2⟩, w9, w10, w11, w12⟩
      have hpR1 : pR (kset (kset (chg k x1 x2 (nI (d - u))) 23 (ra i) 3) 14 (ca j) 1) (mset (mset (owed (mset m 23 0 0) x1 x2 (nI (d - u))) 10 i 3) 2 j (-1)) n r ca ra (UB t) := by
        refine pR_step hR (Nat.le_refl _) hi rfl rfl (fun _ _ => rfl) (fun a h1 h2 q hq => (congrFun (ks_c _ _ _ _ (show a ≠ 14 by omega)) q).trans ((ks_n _ _ _ _ hq).trans (congrFun (chg_c _ _ _ _ (by omega)) q))) (fun a h1 h2 y hy => (congrFun (ms_c _ _ _ _ (show a ≠ 2 by omega)) y).trans ((ms_n _ _ _ _ hy).trans (congrFun ((owed_c _ _ _ _ (by omega)).trans (ms_c _ _ _ _ (show a ≠ 23 by omega))) y))) ?_
        have e10 : mset (mset (owed (mset m 23 0 0) x1 x2 (nI (d - u))) 10 i 3) 2 j (-1) 10 i = 3 := by
          show upd (m 10) i 3 i = 3
          exact upd_s _ _ _
        have e23 : (kset (kset (chg k x1 x2 (nI (d - u))) 23 (ra i) 3) 14 (ca j) 1).1 23 (ra i) = 3 := by
          show upd (k.1 23) (ra i) 3 (ra i) = 3
          exact upd_s _ _ _
        obtain ⟨w1, w2, w3, w4, w5, w6, w7, w8, w9, w10, w11⟩ := a3
        exact ⟨w1, w2, e23.trans e10.symm, w4, w5, w6, w7, w8, w9, w10, Or.inr ⟨j, hj, e11, ep, 3, by decide, e10⟩⟩
      have hlv : ∀ a, a ∈ QC → lRow (kset (kset (chg k x1 x2 (nI (d - u))) 23 (ra i) 3) 14 (ca j) 1) a := by
        intro a ha q hq
        have ho := (hM.2.2.2.1 a ha).2
        by_cases e : q = ra i
        · have h56 := live_2 (b := a) ho (show k.2.1 33 a = some (ra i) from e ▸ hq) (h23.trans h2)
          refine Or.inr (Or.inr (Or.inr ⟨h56, Or.inr (Or.inl ?_)⟩))
          rw [e]
          show upd (k.1 23) (ra i) 3 (ra i) = 3
          exact upd_s _ _ _
        · have hk23 : (kset (kset (chg k x1 x2 (nI (d - u))) 23 (ra i) 3) 14 (ca j) 1).1 23 q = k.1 23 q := by
            show upd (k.1 23) (ra i) 3 q = _
            exact upd_n _ _ e
          rw [hk23]
          exact ho q hq
      have hcore1 : Core (kset (kset (chg k x1 x2 (nI (d - u))) 23 (ra i) 3) 14 (ca j) 1) (mset (mset (owed (mset m 23 0 0) x1 x2 (nI (d - u))) 10 i 3) 2 j (-1)) n r d ca ra A QC (UB t) (EB (c + 1) t) := by
        refine ⟨⟨n1, n2, n3⟩, ⟨c1, c2, c3⟩, ⟨d1, d2, d3⟩, hpC1, hpR1, ?_, hQ, ?_⟩
        · exact pA_mono (k := chg k x1 x2 (nI (d - u))) (m := owed (mset m 23 0 0) x1 x2 (nI (d - u))) hA1 (EB_step c t (Nat.le_refl _))
        · exact pM_live (k' := kset (kset (chg k x1 x2 (nI (d - u))) 23 (ra i) 3) 14 (ca j) 1) hM rfl rfl rfl rfl rfl (fun a h1 h2 => (ms_c _ _ _ _ (show a ≠ 2 by omega)).trans ((ms_c _ _ _ _ (show a ≠ 10 by omega)).trans ((owed_c _ _ _ _ (by omega)).trans (ms_c _ _ _ _ (show a ≠ 23 by omega))))) (List.Sublist.refl _) hlv
      have hgr : Gr (mset (mset (owed (mset m 23 0 0) x1 x2 (nI (d - u))) 10 i 3) 2 j (-1) 10) r = Gr (m 10) r := by
        show Gr (upd (m 10) i 3) r = _
        have := Gr_set (m 10) i 3 r hi
        rw [h2, show g1 2 = 1 by decide, show g1 3 = 1 by decide] at this
        omega
      obtain ⟨s6, s5⟩ := rel_send (S0 := S0) (c1 := ca j) (kind := 4) (x := 5) (y := nI i) (a4 := some (ra i)) hcore1 hS hL1 hL2 hL3 (by rw [hgr]; exact hL4) hc (wayN_le hx1 hx2) (Or.inr ⟨i, hi, rfl, rfl, Or.inr (Or.inr (Or.inr (Or.inr ⟨rfl, rfl⟩)))⟩) (fun q' e => by
          cases e
          refine Or.inr (Or.inr (Or.inl ⟨rfl, ?_, ep.symm⟩))
          show upd (k.1 23) (ra i) 3 (ra i) = 3
          exact upd_s _ _ _) (fun b hb q' e1 e2 => by
          cases e1
          rcases live_2 (b := b) (hM.2.2.2.1 b hb).2 e2 (h23.trans h2) with e | e
          · exact Or.inr (Or.inr (Or.inl e))
          · exact Or.inr (Or.inr (Or.inr e)))
      refine ⟨nI (d - u), mSend (mset (mset (owed (mset m 23 0 0) x1 x2 (nI (d - u))) 10 i 3) 2 j (-1)) A.length 5 (nI i) (nI (d + wayN x1 x2)), fun Q2 hq => ?_, Or.inl ⟨rfl, fun Q QX hq => sx_req_y (by omega) a1 (bS ?_)⟩⟩
      · refine sm_ref_y c1 c3 hi h2 (sm_holds0 (b0 ⟨hin, ?_⟩))
        rw [q_cl (by omega)]
        rw [show mset m 23 0 0 22 0 = nI d from d1, show mset m 23 0 0 12 i = nI u from e12, show mset m 23 0 0 11 i = nI j from e11, q_cl (show j < 1000000 by omega), show mset m 23 0 0 8 i = nI x1 from e8, show mset m 23 0 0 0 j = nI x2 from e0]
        refine ⟨fun e => ⟨hin, hin, hjn, ?_⟩, fun e => ⟨hin, hin, hin, hjn, ?_⟩⟩
        · rw [q_le (by omega) (by omega)] at e
          rw [show d - u = 0 by omega] at s6 hq
          refine sm_owe hx1 hx2 ⟨hin, ?_⟩
          rintro m14 rfl
          refine ⟨hjn, ?_⟩
          rintro m16 rfl
          exact sm_len (by omega) (by omega) e11 hx1 hx2 e8 e0 (s6 _ hq)
        · rw [late_j (by omega) (by omega) e]
          refine sm_owe hx1 hx2 ⟨hin, ?_⟩
          rintro m14 rfl
          refine ⟨hjn, ?_⟩
          rintro m16 rfl
          exact sm_len (by omega) (by omega) e11 hx1 hx2 e8 e0 (s6 _ hq)
      · rw [ep]
        refine bS (bi (h23.trans h2) ?_)
        rw [e20, e11k, d2, h24, e12, late_i (by omega) (by omega), Int32.mul_one]
        refine sx_charge hx1 hx2 ?_
        rintro k14 rfl k15 rfl
        rw [show (kset (kset (chg k x1 x2 (nI (d - u))) 23 (ra i) 3) 14 (ca j) 1).1 20 (ra i) = nI x1 from e20, show (kset (kset (chg k x1 x2 (nI (d - u))) 23 (ra i) 3) 14 (ca j) 1).1 11 (ca j) = nI x2 from e11k]
        exact sx_way hx1 hx2 (s5 _ hq)
    · refine ⟨-1, mset m 23 0 2, fun Q2 hq => ?_, Or.inr (Or.inr ⟨rfl, fun Q QX hq => ?_⟩)⟩
      · exact sm_ref_2 c1 c3 hi h2 (sm_holds2 (b1 hq))
      · refine sx_req_y (by omega) a1 (bS ⟨fun _ => ⟨fun _ => ⟨by decide, hq k (rel_thr h 2)⟩, fun _ => ⟨by decide, hq k (rel_thr h 2)⟩⟩, fun o7 _ => bn (h23.symm ▸ h2) ⟨by decide, hq k (rel_thr h 2)⟩⟩)
  · refine ⟨-1, mset m 23 0 1, fun Q2 hq => ?_, Or.inr (Or.inl ⟨rfl, fun Q QX hq => ?_⟩)⟩
    · exact sm_ref_n c1 c3 hp (sm_holds1 (b1 hq))
    · exact sx_req_n c3 hp (fun i h1 h2 => (hR.2.1 i h1 h2).1) (hq k (rel_thr h 1))
theorem op_mend {S0 c : Nat} {k : kS} {m : mS} (p : Int32) (hc : c < 512) (h : Rel c k m) : OpI (Rel (c + 1)) "java/lang/IndexOutOfBoundsException" (fun Q2 => wX6_mend m p (Q2 0)) (fun Q QX => wX5_mend S0 k p (Q 0) QX) := by
  have h' := h
  obtain ⟨n, r, d, t, ca, ra, A, QC, hcore, hS, hL1, hL2, hL3, hL4⟩ := h'
  have hcore' := hcore
  obtain ⟨⟨n1, n2, n3⟩, ⟨c1, c2, c3⟩, ⟨d1, d2, d3⟩, hC, hR, hA, hQ, hM⟩ := hcore'
  rcases q_rng p n (by omega) with ⟨i, hi, rfl⟩ | ⟨hp, -⟩
  · obtain ⟨a1, a2, a3⟩ := hC.1 i hi
    have hin : vp_in (nI i) 20 := q_in (by omega) (by decide)
    have hah := at_home hC hi
    have h17 : k.1 17 (ca i) = m 6 i := a3.2.2.2.2.2.2.1
    obtain ⟨x2, hx2, e0⟩ : ∃ h, h < 6 ∧ m 0 i = nI h := a3.2.2.2.2.2.2.2.2.1
    have e11k : k.1 11 (ca i) = nI x2 := a3.2.1.trans e0
    by_cases hh : k.1 13 (ca i) = k.1 11 (ca i) ∧ k.1 14 (ca i) = 0
    · by_cases h6 : m 6 i = 0
      · refine ⟨0, mset m 23 0 2, fun Q2 hq => ?_, Or.inr (Or.inr ⟨rfl, fun Q QX hq => ?_⟩)⟩
        · refine sm_copy_y n1 n3 hi (b1 ⟨hin, hin, ?_⟩)
          rw [q_cl (by omega)]
          exact bi (hah.mp hh) ⟨hin, bi h6 (sm_holds2 (b1 hq))⟩
        · exact sx_copy_y (by omega) a1 (bS (at_home_y hh (b1 (bi (h17.trans h6) ⟨by decide, hq k (rel_thr h 2)⟩))))
      · have hpC1 : pC (kset (kset k 16 (ca i) (-1)) 17 (ca i) 0) (mset (mset (mset m 23 0 0) 5 i (-1)) 6 i 0) n ca := by
          refine pC_step hC n3 hi rfl rfl (fun a h1 h2 q hq => (ks_n _ _ _ _ hq).trans (ks_n _ _ _ _ hq)) (fun a ha y hy => (ms_n _ _ _ _ hy).trans ((ms_n _ _ _ _ hy).trans (congrFun (ms_c _ _ _ _ (show a ≠ 23 by omega)) y))) ?_
          have f16 : (kset (kset k 16 (ca i) (-1)) 17 (ca i) 0).1 16 (ca i) = -1 := by
            show upd (k.1 16) (ca i) (-1) (ca i) = _
            exact upd_s _ _ _
          have f17 : (kset (kset k 16 (ca i) (-1)) 17 (ca i) 0).1 17 (ca i) = 0 := upd_s _ _ _
          have f5 : mset (mset (mset m 23 0 0) 5 i (-1)) 6 i 0 5 i = -1 := by
            show upd (m 5) i (-1) i = _
            exact upd_s _ _ _
          have f6 : mset (mset (mset m 23 0 0) 5 i (-1)) 6 i 0 6 i = 0 := upd_s _ _ _
          obtain ⟨w1, w2, w3, w4, w5, w6, w7, w8, w9, w10, w11, w12⟩ := a3
          exact ⟨w1, w2, w3, w4, w5, f16.trans f5.symm, f17.trans f6.symm, w8, w9, w10, Or.inl f5, Or.inl f6⟩
        have hcore1 : Core (kset (kset k 16 (ca i) (-1)) 17 (ca i) 0) (mset (mset (mset m 23 0 0) 5 i (-1)) 6 i 0) n r d ca ra A QC (UB t) (EB (c + 1) t) :=
          ⟨⟨n1, n2, n3⟩, ⟨c1, c2, c3⟩, ⟨d1, d2, d3⟩, hpC1, hR, pA_mono (k := k) (m := m) hA (EB_step c t (x := 0) (by omega)), hQ, hM⟩
        obtain ⟨s6, s5⟩ := rel_send (S0 := S0) (c1 := ca i) (kind := 0) (x := 1) (y := nI i) (w := x2 + 1) (a4 := none) hcore1 hS hL1 hL2 hL3 hL4 hc (by omega) (Or.inl ⟨rfl, i, hi, rfl, rfl, Or.inl ⟨rfl, rfl⟩⟩) (fun q' e => (nomatch e)) (fun _ _ _ e => (nomatch e))
        refine ⟨0, mSend (mset (mset (mset m 23 0 0) 5 i (-1)) 6 i 0) A.length 1 (nI i) (nI (d + (x2 + 1))), fun Q2 hq => ?_, Or.inl ⟨rfl, fun Q QX hq => ?_⟩⟩
        · refine sm_copy_y n1 n3 hi (b1 ⟨hin, hin, ?_⟩)
          rw [q_cl (by omega)]
          refine bi (hah.mp hh) ⟨hin, bn h6 (sm_holds0 (b0 ⟨hin, ?_⟩))⟩
          rintro m1 rfl
          refine ⟨hin, ?_⟩
          rintro m2 rfl
          exact sm_tell (by omega) e0 (s6 (fun _ m1 => Q2 0 m1) hq)
        · refine sx_copy_y (by omega) a1 (bS (at_home_y hh (b1 (bn (by rw [h17]; exact h6) ?_))))
          rintro k1 rfl k2 rfl
          exact sx_news (a := x2) e11k (s5 (fun _ k1 => Q 0 k1) hq)
    · refine ⟨0, mset m 23 0 2, fun Q2 hq => ?_, Or.inr (Or.inr ⟨rfl, fun Q QX hq => ?_⟩)⟩
      · refine sm_copy_y n1 n3 hi (b1 ⟨hin, hin, ?_⟩)
        rw [q_cl (by omega)]
        exact bn (fun e => hh (hah.mpr e)) (sm_holds2 (b1 hq))
      · exact sx_copy_y (by omega) a1 (bS (at_home_n hh (b0 ⟨by decide, hq k (rel_thr h 2)⟩)))
  · refine ⟨0, mset m 23 0 1, fun Q2 hq => ?_, Or.inr (Or.inl ⟨rfl, fun Q QX hq => ?_⟩)⟩
    · exact sm_copy_n n1 n3 hp (b0 (sm_holds1 (b1 hq)))
    · exact sx_copy_n n3 hp (fun i h1 h2 => (hC.2 i h1 h2).1) (hq k (rel_thr h 1))
