/-! PURE: the calls that send -/
def wayN (a b : Nat) : Nat := (if b ≤ a then a - b else b - a) + 1
theorem wayN_comm (a b : Nat) : wayN a b = wayN b a := by unfold wayN; split <;> split <;> omega
theorem wayN_le {a b : Nat} (ha : a < 6) (hb : b < 6) : 1 ≤ wayN a b ∧ wayN a b ≤ 6 := by unfold wayN; split <;> omega
theorem way_i : ∀ a, a < 6 → ∀ b, b < 6 → (if 0 ≤ (nI a - nI b) then (nI a - nI b) else 0 - (nI a - nI b)) + 1 = nI (wayN a b) := by decide
theorem way_j : ∀ a, a < 6 → ∀ b, b < 6 → (nI b ≤ nI a → (nI a - nI b) + 1 = nI (wayN a b)) ∧ (¬ nI b ≤ nI a → (nI b - nI a) + 1 = nI (wayN a b)) := by decide
theorem sx_way {S0 a b : Nat} {k : kS} {Q : Int32 → kS → Prop} (ha : a < 6) (hb : b < 6) (q : Q (nI (wayN a b)) k) : wX5_way S0 k (nI a) (nI b) Q := by
  unfold wX5_way
  rw [way_i a ha b hb]
  exact q
theorem sm_way {a b : Nat} {m : mS} {Q : Int32 → mS → Prop} (ha : a < 6) (hb : b < 6) (q : Q (nI (wayN a b)) m) : wX6_way m (nI a) (nI b) Q :=
  ⟨fun e => by rw [(way_j a ha b hb).1 e]; exact q, fun e => by rw [(way_j a ha b hb).2 e]; exact q⟩
theorem sm_len {m : mS} {i j a b : Nat} {Q : Int32 → mS → Prop} (hi : i < 40) (hj : j < 20) (h11 : m 11 i = nI j) (ha : a < 6) (hb : b < 6) (h8 : m 8 i = nI a) (h0 : m 0 j = nI b) (q : Q (nI (wayN a b)) m) : wX6_length m (nI i) Q := by
  refine ⟨q_in hi (by decide), q_in hi (by decide), ?_⟩
  rw [q_cl (by omega), h11, q_cl (by omega), h8, h0]
  exact ⟨q_in hj (by decide), sm_way ha hb q⟩
theorem Gr_le (f : Nat → Int32) : ∀ n, Gr f n ≤ n := by
  intro n
  induction n with
  | zero => exact Nat.le_refl _
  | succ n ih => show Gr f n + (if _ then 1 else 0) ≤ n + 1; split <;> omega
theorem Gr_cg {f g : Nat → Int32} : ∀ n, (∀ i, i < n → f i = g i) → Gr f n = Gr g n := by
  intro n
  induction n with
  | zero => intro _; rfl
  | succ n ih =>
    intro h
    show Gr f n + (if _ then 1 else 0) = Gr g n + (if _ then 1 else 0)
    rw [ih (fun i hi => h i (by omega)), h n (by omega)]
theorem rel_send {S0 c : Nat} {k : kS} {m : mS} {n r d t w c1 : Nat} {ca ra : Nat → Nat} {A QC : List Nat} {x y kind : Int32} {a4 : Option Nat} (h : Core k m n r d ca ra A QC (UB t) (EB (c + 1) t)) (hS : Srt k A QC d A.length) (hL1 : A.length ≤ QC.length) (hL2 : d ≤ 100 * c) (hL3 : t ≤ 552 * d) (hL4 : QC.length ≤ c + Gr (m 10) r) (hc : c < 512) (hw : 1 ≤ w ∧ w ≤ 6) (hok : mOK n r ca ra x y kind c1 a4) (hlive : ∀ q', a4 = some q' → lOK k kind c1 q') (hpair : ∀ b, b ∈ QC → ∀ q', a4 = some q' → k.2.1 33 b = some q' → (kind = 5 ∨ kind = 6 ∨ k.1 30 b = 5 ∨ k.1 30 b = 6)) :
    (∀ Q2 : Int32 → mS → Prop, Q2 (nI (d + w)) (mSend m A.length x y (nI (d + w))) → wX6_send m x y (nI w) Q2) ∧ (∀ Q : Int32 → kS → Prop, (∀ k', Rel (c + 1) k' (mSend m A.length x y (nI (d + w))) → Q (nI (d + w)) k') → wX5_send S0 k kind (nI w) c1 a4 Q) := by
  have h' := h
  obtain ⟨⟨n1, n2, n3⟩, ⟨r1, r2, r3⟩, ⟨d1, d2, d3⟩, hC, hR, hA, hQ, hM⟩ := h'
  have hg := Gr_le (m 10) r
  refine ⟨fun Q2 q => sm_send hM.1 (by omega) d1 q, fun Q q => sx_send hQ (by omega) (fun a ha => core_mem h (hM.2.2.2.1 a ha).1) d2 (by omega) (fun k' q' QC' hs hi hp => q k' ?_)⟩
  have hcore := core_send h hs hi hp (by omega) (by omega) hok hlive hpair
  have hsrt := srt_send h hs hi (by omega) (by omega) (Nat.le_refl _) hS
  have hq' : arr k' q' ≠ d := by
    unfold arr
    rw [hs.2.2.2.2.2.2.2.2.1, q_cl (by omega)]
    omega
  refine ⟨n, r, d, t, ca, ra, _, _, hcore, srt_last hsrt hq', ?_, by omega, hL3, ?_⟩
  · rw [hi.len, List.length_append, List.length_singleton]; omega
  · rw [hi.len]
    show _ ≤ c + 1 + Gr (m 10) r
    omega
theorem pM_live {k k' : kS} {m m' : mS} {n r : Nat} {ca ra : Nat → Nat} {A QC QC' : List Nat} (h : pM k m n r ca ra A QC) (e2 : k'.2.2 = k.2.2) (e30 : k'.1 30 = k.1 30) (e31 : k'.1 31 = k.1 31) (e32 : k'.2.1 32 = k.2.1 32) (e33 : k'.2.1 33 = k.2.1 33) (hm : ∀ a, 16 ≤ a → a ≤ 19 → m' a = m a) (hsub : QC'.Sublist QC) (hl : ∀ a, a ∈ QC' → lRow k' a) : pM k' m' n r ca ra A QC' := by
  obtain ⟨m1, m2, m3, m4, m5, m6⟩ := h
  refine ⟨by rw [hm 19 (by decide) (by decide)]; exact m1, m2, fun j a hj => ?_, fun a ha => ⟨(m4 a (hsub.subset ha)).1, hl a ha⟩, ?_, m6⟩
  · rw [hm 16 (by decide) (by decide), hm 17 (by decide) (by decide), hm 18 (by decide) (by decide)]
    exact mRow_cg (m3 j a hj) (congrFun e2 a) (congrFun e30 a) (congrFun e31 a) (congrFun e32 a) (congrFun e33 a)
  · refine List.Pairwise.imp (fun {a b} h q => ?_) (List.Pairwise.sublist hsub m5)
    rw [e33, e30]
    exact h q
/-- the shape of a request's row -/
theorem row_cp {f : Nat → Int32} {p : Option Nat} {g : Nat → Int32} {n : Nat} {ca : Nat → Nat} {U : Nat} (h : rRow f p g n ca U) (h5 : g 10 ≠ 5) : ∃ j, j < n ∧ g 11 = nI j ∧ p = some (ca j) := by
  rcases h.2.2.2.2.2.2.2.2.2.2 with ⟨e, -⟩ | ⟨j, hj, e2, e1, -⟩
  · exact absurd e h5
  · exact ⟨j, hj, e2, e1⟩
theorem sx_req_no {S0 : Nat} {k : kS} {o : Nat} {p : Option Nat} {Y : Nat → Prop} {X : Prop} (h : k.1 23 o ≠ 2) (x : X) : (p = none → ((k.1 23 o = 2 → X) ∧ (¬ k.1 23 o = 2 → X))) ∧ (∀ o7, p = some o7 → ((k.1 23 o = 2 → Y o7) ∧ (¬ k.1 23 o = 2 → X))) :=
  ⟨fun _ => ⟨fun _ => x, fun _ => x⟩, fun o7 _ => bn h x⟩
theorem live_2 {k : kS} {b q : Nat} (hl : lRow k b) (hb : k.2.1 33 b = some q) (h : k.1 23 q = 2) : k.1 30 b = 5 ∨ k.1 30 b = 6 := by
  rcases hl q hb with ⟨-, e, -⟩ | ⟨-, e, -⟩ | ⟨-, e, -⟩ | ⟨e, -⟩
  · rw [h] at e; exact absurd e (by decide)
  · rw [h] at e; exact absurd e (by decide)
  · rw [h] at e; exact absurd e (by decide)
  · exact e
theorem op_renew {S0 c : Nat} {k : kS} {m : mS} (p : Int32) (hc : c < 512) (h : Rel c k m) : OpI (Rel (c + 1)) "java/lang/IndexOutOfBoundsException" (wX6_renew m p) (wX5_renew S0 k p) := by
  have h' := h
  obtain ⟨n, r, d, t, ca, ra, A, QC, hcore, hS, hL1, hL2, hL3, hL4⟩ := h'
  have hcore' := hcore
  obtain ⟨⟨n1, n2, n3⟩, ⟨c1, c2, c3⟩, ⟨d1, d2, d3⟩, hC, hR, hA, hQ, hM⟩ := hcore'
  rcases q_rng p r (by omega) with ⟨i, hi, rfl⟩ | ⟨hp, -⟩
  · obtain ⟨a1, a2, a3⟩ := hR.1 i hi
    have h23 : k.1 23 (ra i) = m 10 i := a3.2.2.1
    by_cases h2 : m 10 i = 2
    · obtain ⟨j, hj, e11, ep⟩ := row_cp a3 (by show m 10 i ≠ 5; rw [h2]; decide)
      replace e11 : m 11 i = nI j := e11
      obtain ⟨x1, hx1, e8⟩ : ∃ h, h < 6 ∧ m 8 i = nI h := a3.2.2.2.2.2.2.1
      obtain ⟨b1', b2', b3'⟩ := hC.1 j hj
      obtain ⟨x2, hx2, e0⟩ : ∃ h, h < 6 ∧ m 0 j = nI h := b3'.2.2.2.2.2.2.2.2.1
      have e20 : k.1 20 (ra i) = nI x1 := a3.1.trans e8
      have e11k : k.1 11 (ca j) = nI x2 := b3'.2.1.trans e0
      obtain ⟨s6, s5⟩ := rel_send (S0 := S0) (c1 := ca j) (kind := 5) (x := 3) (y := nI i) (a4 := some (ra i)) (core_thr hcore (EB_step c t (x := 0) (by omega)) 0) hS hL1 hL2 hL3 hL4 hc (wayN_le hx1 hx2) (Or.inr ⟨i, hi, rfl, rfl, Or.inr (Or.inl ⟨rfl, rfl⟩)⟩) (fun q' e => by cases e; exact Or.inr (Or.inr (Or.inr ⟨Or.inl rfl, Or.inl (h23.trans h2)⟩))) (fun _ _ _ _ _ => Or.inl rfl)
      refine ⟨_, _, fun Q2 hq => sm_ref_y c1 c3 hi h2 (sm_holds0 (b0 (sm_len (by omega) (by omega) e11 hx1 hx2 e8 e0 (s6 Q2 hq)))), Or.inl ⟨?_, fun Q QX hq => sx_req_y (by omega) a1 (bS ?_)⟩⟩
      · rfl
      · rw [ep]
        refine bS (bi (h23.trans h2) ?_)
        rw [e20, e11k]
        exact sx_way hx1 hx2 (s5 Q hq)
    · refine ⟨-1, mset m 23 0 2, fun Q2 hq => ?_, Or.inr (Or.inr ⟨rfl, fun Q QX hq => ?_⟩)⟩
      · exact sm_ref_2 c1 c3 hi h2 (sm_holds2 (b1 hq))
      · exact sx_req_y (by omega) a1 (bS (sx_req_no (S0 := S0) (h23.symm ▸ h2) ⟨by decide, hq k (rel_thr h 2)⟩))
  · refine ⟨-1, mset m 23 0 1, fun Q2 hq => ?_, Or.inr (Or.inl ⟨rfl, fun Q QX hq => ?_⟩)⟩
    · exact sm_ref_n c1 c3 hp (sm_holds1 (b1 hq))
    · exact sx_req_n c3 hp (fun i h1 h2 => (hR.2.1 i h1 h2).1) (hq k (rel_thr h 1))
theorem op_recall {S0 c : Nat} {k : kS} {m : mS} (p : Int32) (hc : c < 512) (h : Rel c k m) : OpI (Rel (c + 1)) "java/lang/IndexOutOfBoundsException" (wX6_recall m p) (wX5_recall S0 k p) := by
  have h' := h
  obtain ⟨n, r, d, t, ca, ra, A, QC, hcore, hS, hL1, hL2, hL3, hL4⟩ := h'
  have hcore' := hcore
  obtain ⟨⟨n1, n2, n3⟩, ⟨c1, c2, c3⟩, ⟨d1, d2, d3⟩, hC, hR, hA, hQ, hM⟩ := hcore'
  rcases q_rng p r (by omega) with ⟨i, hi, rfl⟩ | ⟨hp, -⟩
  · obtain ⟨a1, a2, a3⟩ := hR.1 i hi
    have h23 : k.1 23 (ra i) = m 10 i := a3.2.2.1
    have h25 : k.1 25 (ra i) = m 14 i := a3.2.2.2.2.1
    have hin : vp_in (nI i) 40 := q_in (by omega) (by decide)
    by_cases h2 : m 10 i = 2
    · obtain ⟨j, hj, e11, ep⟩ := row_cp a3 (by show m 10 i ≠ 5; rw [h2]; decide)
      replace e11 : m 11 i = nI j := e11
      obtain ⟨x1, hx1, e8⟩ : ∃ h, h < 6 ∧ m 8 i = nI h := a3.2.2.2.2.2.2.1
      obtain ⟨b1', b2', b3'⟩ := hC.1 j hj
      obtain ⟨x2, hx2, e0⟩ : ∃ h, h < 6 ∧ m 0 j = nI h := b3'.2.2.2.2.2.2.2.2.1
      have e20 : k.1 20 (ra i) = nI x1 := a3.1.trans e8
      have e11k : k.1 11 (ca j) = nI x2 := b3'.2.1.trans e0
      rcases (show m 14 i = 0 ∨ m 14 i = 1 from a3.2.2.2.2.2.2.2.1) with h14 | h14
      · have hRow : pR (kset k 25 (ra i) 1) (mset (mset m 23 0 0) 14 i 1) n r ca ra (UB t) := by
          refine pR_step hR (Nat.le_refl _) hi rfl rfl (fun _ _ => rfl) (fun a _ _ q hq => ks_n _ _ _ _ hq) (fun a ha1 ha2 j hj => (ms_n _ _ _ _ hj).trans (congrFun (ms_c m 23 0 0 (b := a) (by omega)) j)) ?_
          have e5 : mset (mset m 23 0 0) 14 i 1 14 i = 1 := upd_s _ _ _
          have e25 : (kset k 25 (ra i) 1).1 25 (ra i) = 1 := upd_s _ _ _
          obtain ⟨w1, w2, w3, w4, w5, w6, w7, w8, w9, w10, w11⟩ := a3
          exact ⟨w1, w2, w3, w4, e25.trans e5.symm, w6, w7, Or.inr e5, w9, w10, w11⟩
        have hcore1 : Core (kset k 25 (ra i) 1) (mset (mset m 23 0 0) 14 i 1) n r d ca ra A QC (UB t) (EB (c + 1) t) :=
          ⟨⟨n1, n2, n3⟩, ⟨c1, c2, c3⟩, ⟨d1, d2, d3⟩, hC, hRow, pA_mono (k := k) (m := m) hA (EB_step c t (x := 0) (by omega)), hQ, hM⟩
        obtain ⟨s6, s5⟩ := rel_send (S0 := S0) (c1 := ca j) (kind := 6) (x := 4) (y := nI i) (a4 := some (ra i)) hcore1 hS hL1 hL2 hL3 hL4 hc (wayN_le hx1 hx2) (Or.inr ⟨i, hi, rfl, rfl, Or.inr (Or.inr (Or.inl ⟨rfl, rfl⟩))⟩) (fun q' e => by cases e; exact Or.inr (Or.inr (Or.inr ⟨Or.inr rfl, Or.inl (h23.trans h2)⟩))) (fun _ _ _ _ _ => Or.inr (Or.inl rfl))
        refine ⟨nI (d + wayN x1 x2), mSend (mset (mset m 23 0 0) 14 i 1) A.length 4 (nI i) (nI (d + wayN x1 x2)), fun Q2 hq => ?_, Or.inl ⟨rfl, fun Q QX hq => sx_req_y (by omega) a1 (bS ?_)⟩⟩
        · unfold wX6_recall
          refine sm_ref_y c1 c3 hi h2 (bi (by decide) ⟨hin, ?_⟩)
          rw [q_cl (by omega)]
          refine bn (by rw [h14]; decide) (sm_holds0 (b0 ⟨hin, ?_⟩))
          rintro m1 rfl
          exact sm_len (by omega) (by omega) e11 hx1 hx2 e8 e0 (s6 Q2 hq)
        · rw [ep]
          refine bS (bi (h23.trans h2) (bi (h25.trans h14) ?_))
          rintro k1 rfl
          rw [show (kset k 25 (ra i) 1).1 20 (ra i) = nI x1 from e20, show (kset k 25 (ra i) 1).1 11 (ca j) = nI x2 from e11k]
          exact sx_way hx1 hx2 (s5 Q hq)
      · refine ⟨-1, mset m 23 0 2, fun Q2 hq => ?_, Or.inr (Or.inr ⟨rfl, fun Q QX hq => ?_⟩)⟩
        · unfold wX6_recall
          refine sm_ref_y c1 c3 hi h2 (bi (by decide) ⟨hin, ?_⟩)
          rw [q_cl (by omega)]
          exact bi h14 (sm_holds2 (b1 hq))
        · refine sx_req_y (by omega) a1 (bS ?_)
          rw [ep]
          exact bS (bi (h23.trans h2) (bn (by rw [h25, h14]; decide) ⟨by decide, hq k (rel_thr h 2)⟩))
    · refine ⟨-1, mset m 23 0 2, fun Q2 hq => ?_, Or.inr (Or.inr ⟨rfl, fun Q QX hq => ?_⟩)⟩
      · unfold wX6_recall
        exact sm_ref_2 c1 c3 hi h2 (bn (by decide) (sm_ref_2 c1 c3 hi h2 (sm_holds2 (b1 hq))))
      · refine sx_req_y (by omega) a1 (bS ⟨fun _ => ⟨fun _ => ⟨by decide, hq k (rel_thr h 2)⟩, fun _ => ⟨by decide, hq k (rel_thr h 2)⟩⟩, fun o7 _ => bn (h23.symm ▸ h2) ⟨by decide, hq k (rel_thr h 2)⟩⟩)
  · refine ⟨-1, mset m 23 0 1, fun Q2 hq => ?_, Or.inr (Or.inl ⟨rfl, fun Q QX hq => ?_⟩)⟩
    · unfold wX6_recall
      exact sm_ref_n c1 c3 hp (bn (by decide) (sm_ref_n c1 c3 hp (sm_holds1 (b1 hq))))
    · exact sx_req_n c3 hp (fun i h1 h2 => (hR.2.1 i h1 h2).1) (hq k (rel_thr h 1))
