/-! PURE: the next home is asked; a new request -/
def kFail (k : kS) (q : Nat) : kS := kset (kptr k 22 q none) 23 q 5
def kAsk (k : kS) (q cb : Nat) : kS := kset (kptr k 22 q (some cb)) 26 q (k.1 26 q ||| (1 <<< (k.1 11 cb &&& 31)))
def mEnd (m : mS) (i w n u d : Nat) : mS := match nb m i w n with
  | none => mFail m i
  | some b => mSend (mAsk m i b) u 2 (nI i) (nI (d + wayN w (hN m b)))
theorem mEnd_c (m : mS) (i w n u d : Nat) {c : Nat} (h : c = 15 ∨ c = 22 ∨ c = 23) : mEnd m i w n u d c = m c := by
  unfold mEnd
  cases nb m i w n with
  | none => rcases h with rfl | rfl | rfl <;> rfl
  | some b => rcases h with rfl | rfl | rfl <;> rfl
theorem ask_m {k k2 : kS} {m : mS} {n cq i w v u d : Nat} {ca : Nat → Nat} (hC : pC k m n ca) (h7 : m 7 0 = nI n) (hn : n ≤ 20) (hi : i < 40) (hAs : Asks k2 m cq i w v) (hu : m 19 0 = nI u) (hu2 : u < 4000) (hd : m 22 0 = nI d) : ∀ Q2 : mS → Prop, Q2 (mEnd m i w n u d) → wX6_ask m (nI i) Q2 := by
  intro Q2 hq
  unfold mEnd at hq
  rcases hb : nb m i w n with _ | b
  · rw [hb] at hq
    exact ⟨n + 1, ask_loop hC h7 hn hi hAs (fun _ => hq) (fun b z e => by rw [hb] at e; cases e) n 0 (by omega)⟩
  · rw [hb] at hq
    refine ⟨n + 1, ask_loop hC h7 hn hi hAs (fun e => by rw [hb] at e; cases e) (fun b2 z2 e e0' hz2 => ?_) n 0 (by omega)⟩
    rw [hb] at e
    cases e
    have hz : hN m b = z2 := by unfold hN; rw [e0', q_cl (by omega)]
    rw [← hz]
    exact sm_send (m := mAsk m i b) hu hu2 hd hq
/-- what an ask comes to -/
def AskEnd (k : kS) (m m1 : mS) (n r d : Nat) (ca ra : Nat → Nat) (A QC : List Nat) (U E i v : Nat) (w5 : (kS → Prop) → Prop) : Prop :=
  (m1 = mFail m i ∧ ∀ Q : kS → Prop, Q (kFail k (ra i)) → w5 Q) ∨
  (∃ (b w v' : Nat), m1 = mSend (mAsk m i b) A.length 2 (nI i) (nI (d + w)) ∧ 1 ≤ w ∧ w ≤ 6 ∧ mAsk m i b 13 i = nI v' ∧ v' < 64 ∧ pop6 v' = pop6 v + 1 ∧
    ∀ Q : kS → Prop, (∀ (k' : kS) (q : Nat) (QC' : List Nat), Core k' m1 n r d ca ra (A ++ [q]) QC' U E → QC'.length = QC.length + 1 → arr k' q = d + w → (∀ x, x ∈ A → arr k' x = arr k x) → (∀ j, j ≤ A.length → Srt k A QC d j → Srt k' (A ++ [q]) QC' d j) → Q k') → w5 Q)
theorem sent_arr {k k' : kS} {m : mS} {n r d q c : Nat} {z : Int32} {ca ra : Nat → Nat} {A QC : List Nat} {U E : Nat} {kind : Int32} {a4 : Option Nat} (h : Core k m n r d ca ra A QC U E) (hs : Sent1 k k' q kind z c a4) : ∀ a, a ∈ A → arr k' a = arr k a := fun a ha => by
  unfold arr
  rw [hs.2.2.1 31 a (by decide) (fun e => (core_mem h ha).1 (e ▸ hs.1))]
theorem ask_both {S0 : Nat} {k : kS} {m : mS} {n r d i w v : Nat} {ca ra : Nat → Nat} {A QC : List Nat} {U E : Nat} (HF : Core (kFail k (ra i)) (mFail m i) n r d ca ra A QC U E) (hi : i < r) (h23 : k.1 23 (ra i) = 0) (hAs : Asks k m (ra i) i w v) (hl : QC.length < 552) (hlA : A.length < 3000) :
    AskEnd k m (mEnd m i w n A.length d) n r d ca ra A QC U E i v (wX5_askNextHome S0 k (ra i)) := by
  have HF' := HF
  obtain ⟨⟨n1, n2, n3⟩, ⟨c1, c2, c3⟩, ⟨d1, d2, d3⟩, hC, hR, hA, hQ, hM⟩ := HF'
  have hC0 : pC k m n ca := hC
  have a3 := (hR.1 i hi).2.2
  rcases hb : nb m i w n with _ | b
  · refine Or.inl ⟨by unfold mEnd; rw [hb], fun Q hq => ?_⟩
    refine sx_near hC0 n3 hAs ?_
    rw [hb]
    refine bN ?_
    rintro k7 rfl k8 rfl
    exact hq
  · have hbs := nb_spec m i w n b hb
    obtain ⟨-, -, b3⟩ := hC0.1 b hbs.1
    obtain ⟨z, hz, e0⟩ : ∃ h, h < 6 ∧ m 0 b = nI h := b3.2.2.2.2.2.2.2.2.1
    have e11 : k.1 11 (ca b) = nI z := b3.2.1.trans e0
    obtain ⟨s1, s2, s3, s4, s5, s6, s7⟩ := hAs
    obtain ⟨g1, g2, g3⟩ := bitset v s7 z hz (by have := hbs.2.2; rw [s6, e0] at this; exact this)
    have e13 : mAsk m i b 13 i = nI (v + 2 ^ z) := by
      show upd (m 13) i (m 13 i ||| (1 <<< (m 0 b &&& 31))) i = _
      rw [upd_s, s6, e0, g1]
    have e26 : (kAsk k (ra i) (ca b)).1 26 (ra i) = nI (v + 2 ^ z) := by
      show upd (k.1 26) (ra i) (k.1 26 (ra i) ||| (1 <<< (k.1 11 (ca b) &&& 31))) (ra i) = _
      rw [upd_s, s3, s6, e11, g1]
    have hw := wayN_le s5 hz
    have hpR1 : pR (kAsk k (ra i) (ca b)) (mAsk m i b) n r ca ra U := by
      refine pR_step hR (Nat.le_refl _) hi rfl rfl (fun q hq => ?_) (fun a h1 h2 q hq => ?_) (fun a h1 h2 y hy => ?_) ?_
      · exact (va_up_ne (k.2.1 22) (some (ca b)) hq).trans (va_up_ne (k.2.1 22) none hq).symm
      · exact (ks_n (kptr k 22 (ra i) (some (ca b))) 26 (ra i) _ hq).trans (ks_n (kptr k 22 (ra i) none) 23 (ra i) 5 hq).symm
      · exact ((ms_n _ _ _ _ hy).trans ((ms_n _ _ _ _ hy).trans (ms_n _ _ _ _ hy))).trans ((ms_n (mset m 11 i (-1)) 10 i 5 hy).trans (ms_n _ _ _ _ hy)).symm
      · have e10 : mAsk m i b 10 i = 0 := by show upd (m 10) i 0 i = _; exact upd_s _ _ _
        have e11' : mAsk m i b 11 i = nI b := by show upd (m 11) i (nI b) i = _; exact upd_s _ _ _
        have e22 : (kAsk k (ra i) (ca b)).2.1 22 (ra i) = some (ca b) := va_up_self (k.2.1 22) (ra i) (some (ca b))
        obtain ⟨w1, w2, w3, w4, w5, w6, w7, w8, w9, w10, w11⟩ := a3
        exact ⟨w1, w2, Eq.trans (show (kAsk k (ra i) (ca b)).1 23 (ra i) = 0 from h23) e10.symm, w4, w5, e26.trans e13.symm, w7, w8, ⟨v + 2 ^ z, g2, e13⟩, w10, Or.inr ⟨b, hbs.1, e11', e22, 0, by decide, e10⟩⟩
    have hlv : ∀ a, a ∈ QC → lRow (kAsk k (ra i) (ca b)) a ∧ k.2.1 33 a ≠ some (ra i) := by
      intro a ha
      have ho := (hM.2.2.2.1 a ha).2
      have hne : ∀ q, k.2.1 33 a = some q → q ≠ ra i := by
        intro q hq e
        subst e
        have f23 : (kFail k (ra i)).1 23 (ra i) = 5 := upd_s (k.1 23) (ra i) 5
        rcases ho _ hq with ⟨-, e, -⟩ | ⟨-, e, -⟩ | ⟨-, e, -⟩ | ⟨-, e | e | e⟩ <;> rw [f23] at e <;> exact absurd e (by decide)
      refine ⟨fun q hq => ?_, fun e => hne _ e rfl⟩
      have hq' := hne q hq
      have := ho q hq
      have f23 : (kFail k (ra i)).1 23 q = k.1 23 q := upd_n (k.1 23) 5 hq'
      have f22 : (kFail k (ra i)).2.1 22 q = k.2.1 22 q := va_up_ne (k.2.1 22) none hq'
      have f22' : (kAsk k (ra i) (ca b)).2.1 22 q = k.2.1 22 q := va_up_ne (k.2.1 22) (some (ca b)) hq'
      rw [f23, f22] at this
      rw [f22']
      exact this
    have hcore1 : Core (kAsk k (ra i) (ca b)) (mAsk m i b) n r d ca ra A QC U E :=
      ⟨⟨n1, n2, n3⟩, ⟨c1, c2, c3⟩, ⟨d1, d2, d3⟩, hC, hpR1, hA, hQ, pM_live (k := kFail k (ra i)) (m := mFail m i) (k' := kAsk k (ra i) (ca b)) (m' := mAsk m i b) hM rfl rfl rfl rfl rfl (fun a h1 h2 => ((ms_c _ _ _ _ (show a ≠ 13 by omega)).trans ((ms_c _ _ _ _ (show a ≠ 10 by omega)).trans (ms_c _ _ _ _ (show a ≠ 11 by omega)))).trans ((ms_c (mset m 11 i (-1)) 10 i 5 (show a ≠ 10 by omega)).trans (ms_c _ _ _ _ (show a ≠ 11 by omega))).symm) (List.Sublist.refl _) (fun a ha => (hlv a ha).1)⟩
    have eEnd : mEnd m i w n A.length d = mSend (mAsk m i b) A.length 2 (nI i) (nI (d + wayN w z)) := by
      unfold mEnd
      rw [hb]
      have : hN m b = z := by unfold hN; rw [e0, q_cl (by omega)]
      rw [← this]
    refine Or.inr ⟨b, wayN w z, v + 2 ^ z, eEnd, hw.1, hw.2, e13, g2, g3, fun Q hq => ?_⟩
    · rw [eEnd] at hq
      refine sx_near hC0 n3 ⟨s1, s2, s3, s4, s5, s6, s7⟩ ?_
      rw [hb]
      refine bS (Y := fun o4 => ∀ k9 : kS, k9 = kptr k 22 (ra i) (some o4) → (wX3_markAsked S0 k9 (ra i) (k9.1 11 o4) (fun k11 => (wX5_way S0 k11 (k11.1 20 (ra i)) (k11.1 11 o4) (fun r12 k13 => (wX5_send S0 k13 2 r12 o4 (some (ra i)) (fun r14 k15 => Q k15))))))) ?_
      rintro k9 rfl k11 rfl
      show wX5_way S0 (kAsk k (ra i) (ca b)) ((kAsk k (ra i) (ca b)).1 20 (ra i)) ((kAsk k (ra i) (ca b)).1 11 (ca b)) _
      rw [show (kAsk k (ra i) (ca b)).1 20 (ra i) = nI w from s1.trans s4, show (kAsk k (ra i) (ca b)).1 11 (ca b) = nI z from e11]
      refine sx_way s5 hz (sx_send (k := kAsk k (ra i) (ca b)) hQ hl (fun a ha => core_mem hcore1 (hM.2.2.2.1 a ha).1) d2 (by omega) (fun k' q QC' hs hin hp => hq k' q QC' ?_ hin.len ?_ (fun x hx => sent_arr (k := kAsk k (ra i) (ca b)) hcore1 hs x hx) (fun j hj hS => ?_)))
      · refine core_send hcore1 hs hin hp (by omega) hlA (Or.inr ⟨i, hi, rfl, rfl, Or.inl ⟨rfl, rfl⟩⟩) (fun q' e => ?_) (fun b2 hb2 q' e1 e2 => ?_)
        · cases e
          exact Or.inl ⟨rfl, h23, (va_up_self (k.2.1 22) (ra i) (some (ca b))).symm⟩
        · cases e1
          exact absurd e2 (hlv b2 hb2).2
      · unfold arr
        rw [hs.2.2.2.2.2.2.2.2.1, q_cl (by omega)]
      · exact srt_send hcore1 hs hin (by omega) (by omega) hj hS
def kReq (k : kS) (q r a : Nat) (v3 : Int32) : kS := kset (kptr (kset (kset (kset (kset (kptr (kset (kset (knew k q 3) 20 q (nI a)) 21 q v3) 22 q none) 23 q 0) 24 q 0) 25 q 0) 26 q 0) 1 r (some q)) 1 0 (nI (r + 1))
def mReq (m : mS) (r a : Nat) (v3 : Int32) : mS := mset (mset (mset (mset m 23 0 0) 8 r (nI a)) 9 r v3) 15 0 (nI (r + 1))
theorem kReq_n (k : kS) (q r a : Nat) (v3 : Int32) {b x : Nat} (hb : 10 ≤ b) (hx : x ≠ q) : (kReq k q r a v3).1 b x = k.1 b x := by
  refine (congrFun (ks_c _ _ _ _ (show b ≠ 1 by omega)) x).trans ?_
  refine (ks_n _ 26 q _ hx).trans ((ks_n _ 25 q _ hx).trans ((ks_n _ 24 q _ hx).trans ((ks_n _ 23 q _ hx).trans ?_)))
  exact (ks_n (kset (knew k q 3) 20 q (nI a)) 21 q _ hx).trans ((ks_n _ 20 q _ hx).trans (knew_n _ _ _ hx))
theorem kReq_p (k : kS) (q r a : Nat) (v3 : Int32) {b x : Nat} (hb : 10 ≤ b) (hx : x ≠ q) : (kReq k q r a v3).2.1 b x = k.2.1 b x := by
  show (if b = 1 then _ else (if b = 22 then va_up (if 10 ≤ b then va_up (k.2.1 b) q none else k.2.1 b) q none else (if 10 ≤ b then va_up (k.2.1 b) q none else k.2.1 b))) x = _
  rw [if_neg (by omega), if_pos hb]
  split
  · rw [va_up_ne _ _ hx, va_up_ne _ _ hx]
  · rw [va_up_ne _ _ hx]
theorem core_req {k : kS} {m : mS} {n r d q a t2 : Nat} {ca ra : Nat → Nat} {A QC : List Nat} {U E : Nat} (h : Core k m n r d ca ra A QC U E) (hq : k.2.2 q = 0) (hr : r < 40) (ha : a < 6) :
    Core (kFail (kReq k q r a (nI t2)) q) (mFail (mReq m r a (nI t2)) r) n (r + 1) d ca (fun i => if i = r then q else ra i) A QC U E ∧ (∀ x, x ≠ q → arr (kReq k q r a (nI t2)) x = arr k x) := by
  have hcore := h
  obtain ⟨⟨n1, n2, n3⟩, ⟨r1, r2, r3⟩, ⟨d1, d2, d3⟩, hC, hR, hA, hQ, hM⟩ := h
  have hqA : ∀ a, a ∈ A → a ≠ q := fun a ha e => (core_mem hcore ha).1 (e ▸ hq)
  have hqc : ∀ i, i < n → ca i ≠ q := fun i hi e => by
    have := (hC.1 i hi).2.1
    rw [e, hq] at this
    exact absurd this (by decide)
  have hqr : ∀ i, i < r → ra i ≠ q := fun i hi e => by
    have := (hR.1 i hi).2.1
    rw [e, hq] at this
    exact absurd this (by decide)
  have k22 : ∀ x, x ≠ q → (kFail (kReq k q r a (nI t2)) q).2.2 x = k.2.2 x := fun x hx => va_up_ne k.2.2 _ hx
  have kn : ∀ b x, 10 ≤ b → x ≠ q → (kFail (kReq k q r a (nI t2)) q).1 b x = k.1 b x := fun b x hb hx => (ks_n (kptr (kReq k q r a (nI t2)) 22 q none) 23 q 5 hx).trans (kReq_n k q r a (nI t2) hb hx)
  have kp : ∀ b x, 10 ≤ b → x ≠ q → (kFail (kReq k q r a (nI t2)) q).2.1 b x = k.2.1 b x := by
    intro b x hb hx
    have e : (kFail (kReq k q r a (nI t2)) q).2.1 b x = (kReq k q r a (nI t2)).2.1 b x := by
      show (if b = 22 then va_up ((kReq k q r a (nI t2)).2.1 b) q none else (kReq k q r a (nI t2)).2.1 b) x = _
      split
      · exact va_up_ne _ _ hx
      · rfl
    exact e.trans (kReq_p k q r a (nI t2) hb hx)
  have mo : ∀ b, 8 ≤ b → b ≤ 14 → ∀ j, j ≠ r → mFail (mReq m r a (nI t2)) r b j = m b j := by
    intro b h1 h2 j hj
    refine (ms_n _ _ _ _ hj).trans ((ms_n _ _ _ _ hj).trans ((congrFun (ms_c _ _ _ _ (show b ≠ 15 by omega)) j).trans ?_))
    exact (ms_n _ _ _ _ hj).trans ((ms_n _ _ _ _ hj).trans (congrFun (ms_c _ _ _ _ (show b ≠ 23 by omega)) j))
  have mc : ∀ b, 16 ≤ b → b ≤ 19 → mFail (mReq m r a (nI t2)) r b = m b := by
    intro b h1 h2
    exact (ms_c _ _ _ _ (show b ≠ 10 by omega)).trans ((ms_c _ _ _ _ (show b ≠ 11 by omega)).trans ((ms_c _ _ _ _ (show b ≠ 15 by omega)).trans ((ms_c _ _ _ _ (show b ≠ 9 by omega)).trans ((ms_c _ _ _ _ (show b ≠ 8 by omega)).trans (ms_c _ _ _ _ (show b ≠ 23 by omega))))))
  refine ⟨⟨⟨n1, n2, n3⟩, ⟨?_, ?_, by omega⟩, ⟨d1, d2, d3⟩, ?_, ⟨fun i hi => ?_, fun i hi h40 => ?_, fun i j hi hj e => ?_⟩, hA, hQ, ?_⟩, fun x hx => ?_⟩
  · show upd (m 15) 0 (nI (r + 1)) 0 = _
    exact upd_s _ _ _
  · show upd (k.1 1) 0 (nI (r + 1)) 0 = _
    exact upd_s _ _ _
  · exact pC_cg hC rfl (fun i hi => k22 _ (hqc i hi)) (fun b h1 h2 i hi => kn b _ h1 (hqc i hi)) (fun b hb => (ms_c _ _ _ _ (show b ≠ 10 by omega)).trans ((ms_c _ _ _ _ (show b ≠ 11 by omega)).trans ((ms_c _ _ _ _ (show b ≠ 15 by omega)).trans ((ms_c _ _ _ _ (show b ≠ 9 by omega)).trans ((ms_c _ _ _ _ (show b ≠ 8 by omega)).trans (ms_c _ _ _ _ (show b ≠ 23 by omega)))))))
  · simp only
    by_cases e : i = r
    · subst e
      rw [if_pos rfl]
      have z := hR.2.1 i (Nat.le_refl _) hr
      have m8 : mFail (mReq m i a (nI t2)) i 8 i = nI a := by show upd (m 8) i (nI a) i = _; exact upd_s _ _ _
      have m9 : mFail (mReq m i a (nI t2)) i 9 i = nI t2 := by show upd (m 9) i (nI t2) i = _; exact upd_s _ _ _
      have m10 : mFail (mReq m i a (nI t2)) i 10 i = 5 := by show upd (m 10) i 5 i = _; exact upd_s _ _ _
      have m11 : mFail (mReq m i a (nI t2)) i 11 i = -1 := by show upd (m 11) i (-1) i = _; exact upd_s _ _ _
      have m12 : mFail (mReq m i a (nI t2)) i 12 i = 0 := z.2.1
      have m13 : mFail (mReq m i a (nI t2)) i 13 i = 0 := z.2.2.1
      have m14 : mFail (mReq m i a (nI t2)) i 14 i = 0 := z.2.2.2
      have k20 : (kFail (kReq k q i a (nI t2)) q).1 20 q = nI a := by show upd (upd (k.1 20) q 0) q (nI a) q = _; exact upd_s _ _ _
      have k21 : (kFail (kReq k q i a (nI t2)) q).1 21 q = nI t2 := by show upd (upd (k.1 21) q 0) q (nI t2) q = _; exact upd_s _ _ _
      have k23 : (kFail (kReq k q i a (nI t2)) q).1 23 q = 5 := by show upd (upd (upd (k.1 23) q 0) q 0) q 5 q = _; exact upd_s _ _ _
      have k24 : (kFail (kReq k q i a (nI t2)) q).1 24 q = 0 := by show upd (upd (k.1 24) q 0) q 0 q = _; exact upd_s _ _ _
      have k25 : (kFail (kReq k q i a (nI t2)) q).1 25 q = 0 := by show upd (upd (k.1 25) q 0) q 0 q = _; exact upd_s _ _ _
      have k26 : (kFail (kReq k q i a (nI t2)) q).1 26 q = 0 := by show upd (upd (k.1 26) q 0) q 0 q = _; exact upd_s _ _ _
      have p22 : (kFail (kReq k q i a (nI t2)) q).2.1 22 q = none := by
        show va_up (va_up (va_up (k.2.1 22) q none) q none) q none q = _
        exact va_up_self _ _ _
      refine ⟨va_up_self (k.2.1 1) i (some q), va_up_self k.2.2 q 3, ?_⟩
      exact ⟨k20.trans m8.symm, k21.trans m9.symm, k23.trans m10.symm, k24.trans m12.symm, k25.trans m14.symm, k26.trans m13.symm, ⟨a, ha, m8⟩, Or.inl m14, ⟨0, by decide, m13⟩, ⟨0, by omega, m12⟩, Or.inl ⟨m10, p22, m11⟩⟩
    · rw [if_neg e]
      have hi' : i < r := by omega
      obtain ⟨a1, a2, a3⟩ := hR.1 i hi'
      refine ⟨(va_up_ne (k.2.1 1) (some q) e).trans a1, (k22 _ (hqr i hi')).trans a2, ?_⟩
      rw [kp 22 _ (by decide) (hqr i hi')]
      exact rRow_cg a3 (Nat.le_refl _) (fun b h1 h2 => kn b _ (by omega) (hqr i hi')) (fun b h1 h2 => mo b h1 h2 i e)
  · have z := hR.2.1 i (by omega) h40
    refine ⟨(va_up_ne (k.2.1 1) (some q) (show i ≠ r by omega)).trans z.1, (mo 12 (by decide) (by decide) i (by omega)).trans z.2.1, (mo 13 (by decide) (by decide) i (by omega)).trans z.2.2.1, (mo 14 (by decide) (by decide) i (by omega)).trans z.2.2.2⟩
  · simp only at e
    by_cases e1 : i = r
    · by_cases e2 : j = r
      · omega
      · rw [if_pos e1, if_neg e2] at e
        exact absurd e.symm (hqr j (by omega))
    · by_cases e2 : j = r
      · rw [if_neg e1, if_pos e2] at e
        exact absurd e (hqr i (by omega))
      · rw [if_neg e1, if_neg e2] at e
        exact hR.2.2 i j (by omega) (by omega) e
  · exact pM_new hM (Nat.le_refl _) (Nat.le_succ r) (fun _ _ => rfl) (fun i hi => if_neg (by omega)) (fun b h1 h2 => mc b h1 h2) (fun x hx => ⟨k22 x (hqA x hx), kn 30 x (by decide) (hqA x hx), kn 31 x (by decide) (hqA x hx), kp 32 x (by decide) (hqA x hx), kp 33 x (by decide) (hqA x hx)⟩) (fun i hi => ⟨kn 23 _ (by decide) (hqr i hi), kp 22 _ (by decide) (hqr i hi)⟩)
  · unfold arr
    rw [kReq_n _ _ _ _ _ (by decide) hx]
theorem op_request {S0 c : Nat} {k : kS} {m : mS} (p p2 : Int32) (hc : c < 512) (h : Rel c k m) : OpI (Rel (c + 1)) "java/lang/IllegalArgumentException" (wX6_request m p p2) (wX5_request S0 k p p2) := by
  have h' := h
  obtain ⟨n, r, d, t, ca, ra, A, QC, hcore, hS, hL1, hL2, hL3, hL4⟩ := h'
  have hcore' := hcore
  obtain ⟨⟨n1, n2, n3⟩, ⟨c1, c2, c3⟩, ⟨d1, d2, d3⟩, hC, hR, hA, hQ, hM⟩ := hcore'
  have hg := Gr_le (m 10) r
  rcases q_rng p 6 (by decide) with ⟨a, ha, rfl⟩ | ⟨hp, -⟩
  · rcases q_rng p2 8 (by decide) with ⟨t2, ht2, rfl⟩ | ⟨hp, -⟩
    · by_cases hn : r = 40
      · refine ⟨-1, mset m 23 0 2, fun Q2 hq => ?_, Or.inr (Or.inr ⟨rfl, fun Q QX hq => ?_⟩)⟩
        · exact sm_house_y ha (b1 (sm_title_y ht2 (b1 (bi (by rw [c1, hn]; rfl) (sm_holds2 (b1 hq))))))
        · refine sx_house_y ha (b1 (sx_title_y ht2 (b1 ?_)))
          rw [c2]
          exact bn (q_nn (by omega)) (bn (by rw [show (40 : Int32) = nI 40 from rfl, q_lt (by omega) (by omega)]; omega) ⟨by decide, hq k (rel_thr h 2)⟩)
      · have hr40 : r < 40 := by omega
        have hin : vp_in (nI r) 40 := q_in hr40 (by decide)
        have hAs0 : Asks (fun b _ => if b = 20 then nI a else if b = 21 then nI t2 else 0, fun _ _ => none, fun _ => 0) (mReq m r a (nI t2)) 0 r a 0 := by
          have z := hR.2.1 r (Nat.le_refl _) hr40
          have m8 : mReq m r a (nI t2) 8 r = nI a := by show upd (m 8) r (nI a) r = _; exact upd_s _ _ _
          have m9 : mReq m r a (nI t2) 9 r = nI t2 := by show upd (m 9) r (nI t2) r = _; exact upd_s _ _ _
          have m13 : mReq m r a (nI t2) 13 r = 0 := z.2.2.1
          exact ⟨m8.symm, m9.symm, m13.symm, m8, ha, m13, by decide⟩
        have e15 : mReq m r a (nI t2) 15 0 = nI (r + 1) := by show upd (m 15) 0 (nI (r + 1)) 0 = _; exact upd_s _ _ _
        refine ⟨nI r, mEnd (mReq m r a (nI t2)) r a n A.length d, fun Q2 hq => ?_, Or.inl ⟨?_, fun Q QX hq => ?_⟩⟩
        · refine sm_house_y ha (b1 (sm_title_y ht2 (b1 (bn (by rw [c1]; intro e; exact hn (q_inj (by omega) (by decide) e)) (sm_holds0 (b0 ?_))))))
          rw [show mset m 23 0 0 15 0 = nI r from c1]
          refine ⟨hin, ?_⟩
          rw [q_cl (by omega)]
          rintro m1 rfl
          rw [show mset (mset m 23 0 0) 8 r (nI a) 15 0 = nI r from c1]
          refine ⟨hin, ?_⟩
          rw [q_cl (by omega)]
          rintro m1 rfl m2 rfl
          rw [show mset (mset (mset m 23 0 0) 8 r (nI a)) 9 r (nI t2) 15 0 = nI r from c1, nI_1]
          show wX6_ask (mReq m r a (nI t2)) (mReq m r a (nI t2) 15 0 - 1) _
          rw [e15, nI_pred]
          refine ask_m (k := k) (m := mReq m r a (nI t2)) (u := A.length) (d := d) hC n1 n3 hr40 hAs0 hM.1 (by have := hM.2.1; omega) d1 _ ?_
          rw [mEnd_c _ _ _ _ _ _ (Or.inl rfl), e15, nI_pred]
          exact hq
        · rw [mEnd_c _ _ _ _ _ _ (Or.inr (Or.inr rfl))]; rfl
        · refine sx_house_y ha (b1 (sx_title_y ht2 (b1 ?_)))
          rw [c2]
          refine bn (q_nn (by omega)) (bi (by rw [show (40 : Int32) = nI 40 from rfl, q_lt (by omega) (by omega)]; omega) ⟨by decide, fun q hq0 _ => ?_⟩)
          rintro k13 rfl k1 rfl k2 rfl k3 rfl k4 rfl k5 rfl k6 rfl k7 rfl
          refine ⟨hin, ?_⟩
          rw [q_cl (by omega), nI_1]
          rintro k18 rfl k19 rfl
          show wX5_askNextHome S0 (kReq k q r a (nI t2)) q _
          obtain ⟨HF0, harr⟩ := core_req (t2 := t2) hcore hq0 hr40 ha
          obtain ⟨ra', hra'⟩ : ∃ f : Nat → Nat, f = fun i => if i = r then q else ra i := ⟨_, rfl⟩
          have er : ra' r = q := by rw [hra']; exact if_pos rfl
          rw [← hra'] at HF0
          have HF : Core (kFail (kReq k q r a (nI t2)) (ra' r)) (mFail (mReq m r a (nI t2)) r) n (r + 1) d ca ra' A QC (UB t) (EB (c + 1) t) := by
            rw [er]
            obtain ⟨g1, g2, g3, g4, g5, g6, g7, g8⟩ := HF0
            exact ⟨g1, g2, g3, g4, g5, pA_mono g6 (EB_step c t (x := 0) (by omega)), g7, g8⟩
          have hAs : Asks (kReq k q r a (nI t2)) (mReq m r a (nI t2)) (ra' r) r a 0 := by
            have k20 : (kReq k q r a (nI t2)).1 20 q = nI a := by show upd (upd (k.1 20) q 0) q (nI a) q = _; exact upd_s _ _ _
            have k21 : (kReq k q r a (nI t2)).1 21 q = nI t2 := by show upd (upd (k.1 21) q 0) q (nI t2) q = _; exact upd_s _ _ _
            have k26 : (kReq k q r a (nI t2)).1 26 q = 0 := by show upd (upd (k.1 26) q 0) q 0 q = _; exact upd_s _ _ _
            obtain ⟨s1, s2, s3, s4, s5, s6, s7⟩ := hAs0
            rw [er]
            exact ⟨k20.trans s1, k21.trans s2, k26.trans s3, s4, s5, s6, s7⟩
          have h23 : (kReq k q r a (nI t2)).1 23 (ra' r) = 0 := by
            rw [er]
            show upd (upd (k.1 23) q 0) q 0 q = _
            exact upd_s _ _ _
          have hQA : ∀ a, a ∈ QC → a ∈ A := fun a ha => (hM.2.2.2.1 a ha).1
          have hqA : ∀ x, x ∈ A → x ≠ q := fun x hx e => (core_mem hcore hx).1 (e ▸ hq0)
          have hS1 : Srt (kReq k q r a (nI t2)) A QC d A.length := srt_arr hS (fun x hx => harr x (hqA x hx)) hQA
          have hgr : Gr (mFail (mReq m r a (nI t2)) r 10) (r + 1) = Gr (m 10) r := by
            show Gr (upd (m 10) r 5) r + g1 (upd (m 10) r 5 r) = _
            rw [upd_s, show g1 5 = 0 by decide, Gr_cg (f := upd (m 10) r 5) (g := m 10) r (fun j hj => upd_n _ _ (by omega))]
            omega
          have hE := ask_both (S0 := S0) HF (by omega) h23 hAs (by omega) (by have := hM.2.1; omega)
          rw [er] at hE
          rcases hE with ⟨e1, hE⟩ | ⟨b, w, v', e1, hw1, hw2, -, -, -, hE⟩
          · refine hE _ (hq _ ?_)
            rw [e1]
            exact ⟨n, r + 1, d, t, ca, ra', A, QC, HF, hS1, hL1, by omega, hL3, by rw [hgr]; omega⟩
          · refine hE _ (fun k' q' QC' hC' hlen harr' _ hsrt => hq _ ?_)
            refine ⟨n, r + 1, d, t, ca, ra', _, _, hC', srt_last (hsrt A.length (Nat.le_refl _) hS1) (by omega), ?_, by omega, hL3, ?_⟩
            · rw [hlen, List.length_append, List.length_singleton]; omega
            · rw [hlen, e1]
              have : Gr (mSend (mAsk (mReq m r a (nI t2)) r b) A.length 2 (nI r) (nI (d + w)) 10) (r + 1) = Gr (m 10) r := by
                show Gr (upd (m 10) r 0) r + g1 (upd (m 10) r 0 r) = _
                rw [upd_s, show g1 0 = 0 by decide, Gr_cg (f := upd (m 10) r 0) (g := m 10) r (fun j hj => upd_n _ _ (by omega))]
                omega
              rw [this]
              omega
    · refine ⟨-1, mset m 23 0 1, fun Q2 hq => ?_, Or.inr (Or.inl ⟨rfl, fun Q QX hq => ?_⟩)⟩
      · exact sm_house_y ha (b1 (sm_title_n hp (b0 (sm_holds1 (b1 hq)))))
      · exact sx_house_y ha (b1 (sx_title_n hp (b0 ⟨by decide, hq k (rel_thr h 1)⟩)))
  · refine ⟨-1, mset m 23 0 1, fun Q2 hq => ?_, Or.inr (Or.inl ⟨rfl, fun Q QX hq => ?_⟩)⟩
    · exact sm_house_n hp (b0 (sm_holds1 (b1 hq)))
    · exact sx_house_n hp (b0 ⟨by decide, hq k (rel_thr h 1)⟩)
