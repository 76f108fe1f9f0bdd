/-! PURE: what arrives, one by one -/
def DPost (k : kS) (m1 : mS) (n r d c t : Nat) (ca ra : Nat → Nat) (A QC : List Nat) (k' : kS) : Prop :=
  ∃ (X QC' : List Nat), Core k' m1 n r d ca ra (A ++ X) QC' (UB (t + 1)) (EB c (t + 1)) ∧ X.length ≤ 2 ∧ QC'.length ≤ c + Gr (m1 10) r ∧ (∀ x, x ∈ A → arr k' x = arr k x) ∧ (∀ x, x ∈ X → d < arr k' x) ∧ (∀ j, j ≤ A.length → Srt k A QC d j → Srt k' (A ++ X) QC' d j)
theorem UB_up (t : Nat) : UB t + 20 = UB (t + 1) := by unfold UB; omega
theorem EB_up (c t : Nat) : EB c t + 36 = EB c (t + 1) := by unfold EB; omega
theorem core_mono {k : kS} {m : mS} {n r d : Nat} {ca ra : Nat → Nat} {A QC : List Nat} {U U' E E' : Nat} (h : Core k m n r d ca ra A QC U E) (hU : U ≤ U') (hE : E ≤ E') : Core k m n r d ca ra A QC U' E' := by
  obtain ⟨g1, g2, g3, g4, g5, g6, g7, g8⟩ := h
  exact ⟨g1, g2, g3, g4, pR_mono g5 hU, pA_mono g6 hE, g7, g8⟩
theorem dpost_nil {k k' : kS} {m1 : mS} {n r d c t : Nat} {ca ra : Nat → Nat} {A QC : List Nat} (h : Core k' m1 n r d ca ra A QC (UB (t + 1)) (EB c (t + 1))) (harr : arr k' = arr k) (hl : QC.length ≤ c + Gr (m1 10) r) : DPost k m1 n r d c t ca ra A QC k' := by
  refine ⟨[], QC, by rw [List.append_nil]; exact h, Nat.zero_le _, hl, fun x _ => by rw [harr], fun x hx => absurd hx List.not_mem_nil, fun j hj hS => ?_⟩
  rw [List.append_nil]
  unfold Srt
  rw [harr]
  exact hS
/-- what is told of the one that arrives -/
def Arr1 (k : kS) (m : mS) (n r d c t : Nat) (ca ra : Nat → Nat) (A QC : List Nat) (a : Nat) : Prop :=
  Core k m n r d ca ra A QC (UB t) (EB c t) ∧ A.length + 2 ≤ 3000 ∧ c ≤ 512 ∧ EB c t ≤ 2000000000 ∧ QC.length + 1 ≤ c + Gr (m 10) r ∧ lRow k a ∧ (∀ b, b ∈ QC → lPair k a b)
theorem others {k : kS} {QC : List Nat} {a q : Nat} (hp : ∀ b, b ∈ QC → lPair k a b) (h33 : k.2.1 33 a = some q) (h5 : k.1 30 a ≠ 5) (h6 : k.1 30 a ≠ 6) : ∀ b, b ∈ QC → k.2.1 33 b = some q → k.1 30 b = 5 ∨ k.1 30 b = 6 := by
  intro b hb e
  rcases hp b hb q h33 e with h | h | h | h
  · exact absurd h h5
  · exact absurd h h6
  · exact Or.inl h
  · exact Or.inr h
theorem none_other {k : kS} {QC : List Nat} {a q : Nat} (hl : ∀ b, b ∈ QC → lRow k b) (hp : ∀ b, b ∈ QC → lPair k a b) (h33 : k.2.1 33 a = some q) (h5 : k.1 30 a ≠ 5) (h6 : k.1 30 a ≠ 6) (hs : k.1 23 q = 0 ∨ k.1 23 q = 1) : ∀ b, b ∈ QC → k.2.1 33 b ≠ some q := by
  intro b hb e
  have h := others hp h33 h5 h6 b hb e
  have hst : ¬ (k.1 23 q = 2 ∨ k.1 23 q = 3 ∨ k.1 23 q = 4) := by
    rintro (e | e | e) <;> rcases hs with hs | hs <;> rw [hs] at e <;> exact absurd e (by decide)
  rcases hl b hb q e with ⟨e1, -⟩ | ⟨e1, -⟩ | ⟨e1, -⟩ | ⟨-, e2⟩
  · rcases h with h | h <;> rw [h] at e1 <;> exact absurd e1 (by decide)
  · rcases h with h | h <;> rw [h] at e1 <;> exact absurd e1 (by decide)
  · rcases h with h | h <;> rw [h] at e1 <;> exact absurd e1 (by decide)
  · exact hst e2
theorem dv_news {S0 : Nat} {k : kS} {m : mS} {n r d c t a i : Nat} {ca ra : Nat → Nat} {A QC : List Nat} {x : Int32} (h : Arr1 k m n r d c t ca ra A QC a) (h33 : k.2.1 33 a = none) (hi : i < n) (h32 : k.2.1 32 a = some (ca i)) (hx : (x = 1 ∧ k.1 30 a = 0) ∨ (x = 0 ∧ k.1 30 a = 1)) :
    (∀ Q2 : mS → Prop, Q2 (mset m 4 i x) → wX6_arrive m x (nI i) Q2) ∧ (∀ (b : Nat) (Q : kS → Prop), (∀ k', DPost k (mset m 4 i x) n r d c t ca ra A QC k' → Q k') → wX5_deliver S0 b k a Q) := by
  obtain ⟨hcore, -, -, -, hl, -, -⟩ := h
  have hcore' := core_mono hcore (U' := UB (t + 1)) (E' := EB c (t + 1)) (by rw [← UB_up]; omega) (by rw [← EB_up]; omega)
  obtain ⟨⟨n1, n2, n3⟩, g2, g3, hC, g5, g6, g7, g8⟩ := hcore'
  have hk : Core (kset k 15 (ca i) x) (mset m 4 i x) n r d ca ra A QC (UB (t + 1)) (EB c (t + 1)) := by
    refine ⟨⟨n1, n2, n3⟩, g2, g3, ?_, g5, g6, g7, g8⟩
    refine pC_step hC n3 hi rfl rfl (fun b h1 h2 q hq => ks_n _ _ _ _ hq) (fun b hb j hj => ms_n _ _ _ _ hj) ?_
    have e4 : mset m 4 i x 4 i = x := upd_s _ _ _
    have e15 : (kset k 15 (ca i) x).1 15 (ca i) = x := upd_s _ _ _
    obtain ⟨w1, w2, w3, w4, w5, w6, w7, w8, w9, w10, w11, w12⟩ := (hC.1 i hi).2.2
    exact ⟨w1, w2, w3, w4, e15.trans e4.symm, w6, w7, w8, w9, w10, w11, w12⟩
  refine ⟨fun Q2 hq => ?_, fun b Q hq => ?_⟩
  · refine bn (by rcases hx with ⟨e, -⟩ | ⟨e, -⟩ <;> rw [e] <;> decide) ⟨q_in (by omega) (by decide), ?_⟩
    rw [q_cl (by omega)]
    rintro m1 rfl
    exact hq
  · have hf := hq _ (dpost_nil (k := k) (k' := kset k 15 (ca i) x) hk rfl (show QC.length ≤ c + Gr (m 10) r by omega))
    unfold wX5_deliver
    rw [h32, h33]
    refine bS (bN ?_)
    rcases hx with ⟨e, e30⟩ | ⟨e, e30⟩
    · subst e
      refine bi e30 ?_
      rintro k9 rfl
      exact hf
    · subst e
      refine bn (by rw [e30]; decide) ?_
      rintro k9 rfl
      exact hf
theorem sx_dv {S0 b : Nat} {k : kS} {a q c1 : Nat} {Q : kS → Prop} (h32 : k.2.1 32 a = some c1) (h33 : k.2.1 33 a = some q) (h : ((((k.1 30 a) = 2 → (0 + 2 ≤ b ∧ (wX5_answerQuestion S0 k c1 q (fun k13 => Q k13)))) ∧ ((k.1 30 a) = 3 → (wX5_beginLoan S0 k c1 q (fun k16 => Q k16))) ∧ ((k.1 30 a) = 4 → (0 + 1 ≤ b ∧ (wX5_comeHome S0 k c1 q (fun k20 => Q k20)))) ∧ ((k.1 30 a) = 5 → (wX5_prolong S0 k q (fun k23 => Q k23))) ∧ ((k.1 30 a) = 6 → (wX5_shorten S0 k q (fun k26 => Q k26))) ∧ ((¬ (k.1 30 a) = 2 ∧ ¬ (k.1 30 a) = 3 ∧ ¬ (k.1 30 a) = 4 ∧ ¬ (k.1 30 a) = 5 ∧ ¬ (k.1 30 a) = 6) → Q k)))) : wX5_deliver S0 b k a Q := by
  unfold wX5_deliver
  rw [h32, h33]
  exact bS (bS h)
theorem no_eq {x y z : Int32} {P : Prop} (h : x = y) (hn : y ≠ z) : x = z → P := fun e => absurd (h.symm.trans e) hn
theorem core_until {k : kS} {m : mS} {n r d c t i u : Nat} {ca ra : Nat → Nat} {A QC : List Nat} (h : Core k m n r d ca ra A QC (UB t) (EB c t)) (hi : i < r) (hu : u ≤ UB (t + 1)) : Core (kset k 24 (ra i) (nI u)) (mset m 12 i (nI u)) n r d ca ra A QC (UB (t + 1)) (EB c (t + 1)) := by
  have h' := core_mono h (U' := UB (t + 1)) (E' := EB c (t + 1)) (by rw [← UB_up]; omega) (by rw [← EB_up]; omega)
  obtain ⟨g1, g2, g3, g4, hR, g6, g7, g8⟩ := h'
  refine ⟨g1, g2, g3, g4, ?_, g6, g7, g8⟩
  refine pR_step hR (Nat.le_refl _) hi rfl rfl (fun _ _ => rfl) (fun b h1 h2 q hq => ks_n _ _ _ _ hq) (fun b h1 h2 j hj => ms_n _ _ _ _ hj) ?_
  have e12 : mset m 12 i (nI u) 12 i = nI u := upd_s _ _ _
  have e24 : (kset k 24 (ra i) (nI u)).1 24 (ra i) = nI u := upd_s _ _ _
  obtain ⟨w1, w2, w3, w4, w5, w6, w7, w8, w9, w10, w11⟩ := (hR.1 i hi).2.2
  exact ⟨w1, w2, w3, e24.trans e12.symm, w5, w6, w7, w8, w9, ⟨u, hu, e12⟩, w11⟩
theorem ms_id (m : mS) (a i : Nat) : mset m a i (m a i) = m := by
  funext b
  show (if b = a then upd (m b) i (m a i) else m b) = m b
  by_cases h : b = a
  · rw [if_pos h, h]
    funext j
    by_cases e : j = i
    · rw [e, upd_s]
    · rw [upd_n _ _ e]
  · rw [if_neg h]
def mRen (m : mS) (i : Nat) : mS := if m 10 i = 2 ∧ m 14 i = 0 then mset m 12 i (nI (i2n (m 12 i) + 20)) else m
theorem dv_renew {S0 : Nat} {k : kS} {m : mS} {n r d c t a i c1 : Nat} {ca ra : Nat → Nat} {A QC : List Nat} (h : Arr1 k m n r d c t ca ra A QC a) (hU : UB t < 1000000000) (h33 : k.2.1 33 a = some (ra i)) (hi : i < r) (h32 : k.2.1 32 a = some c1) (h30 : k.1 30 a = 5) :
    (∀ Q2 : mS → Prop, Q2 (mRen m i) → wX6_arrive m 3 (nI i) Q2) ∧ (∀ (b : Nat) (Q : kS → Prop), (∀ k', DPost k (mRen m i) n r d c t ca ra A QC k' → Q k') → wX5_deliver S0 b k a Q) := by
  obtain ⟨hcore, -, -, -, hl, -, -⟩ := h
  have hcore' := hcore
  obtain ⟨g1, ⟨r1, r2, r3⟩, g3, g4, hR, -⟩ := hcore'
  have a3 := (hR.1 i hi).2.2
  have h23 : k.1 23 (ra i) = m 10 i := a3.2.2.1
  have h24 : k.1 24 (ra i) = m 12 i := a3.2.2.2.1
  have h25 : k.1 25 (ra i) = m 14 i := a3.2.2.2.2.1
  obtain ⟨u, hu, e12⟩ : ∃ u, u ≤ UB t ∧ m 12 i = nI u := a3.2.2.2.2.2.2.2.2.2.1
  have hin : vp_in (nI i) 40 := q_in (by omega) (by decide)
  have hid : Core k m n r d ca ra A QC (UB (t + 1)) (EB c (t + 1)) := core_mono hcore (by rw [← UB_up]; omega) (by rw [← EB_up]; omega)
  have eu : i2n (m 12 i) = u := by unfold i2n; rw [e12]; exact nI_clamp (by omega)
  refine ⟨fun Q2 hq => ?_, fun b Q hq => sx_dv h32 h33 ⟨no_eq h30 (by decide), no_eq h30 (by decide), no_eq h30 (by decide), fun _ => ?_, no_eq h30 (by decide), fun e => absurd h30 e.2.2.2.1⟩⟩
  · refine bi (by decide) (bn (by decide) (bi rfl ⟨hin, hin, ?_⟩))
    rw [q_cl (show i < 1000000 by omega)]
    unfold mRen at hq
    by_cases h2 : m 10 i = 2
    · refine bi h2 ⟨hin, ?_⟩
      by_cases h0 : m 14 i = 0
      · refine bi h0 ⟨hin, ?_⟩
        rintro m1 rfl
        rw [if_pos ⟨h2, h0⟩, eu] at hq
        rw [e12, show (20 : Int32) = nI 20 from rfl, nI_add]
        exact hq
      · refine bn h0 ⟨hin, ?_⟩
        rintro m1 rfl
        rw [if_neg (fun e => h0 e.2)] at hq
        rw [Int32.add_zero, ms_id]
        exact hq
    · refine bn h2 ⟨hin, ?_⟩
      rintro m1 rfl
      rw [if_neg (fun e => h2 e.1)] at hq
      rw [Int32.add_zero, ms_id]
      exact hq
  · unfold mRen at hq
    by_cases h2 : m 10 i = 2
    · refine bi (h23.trans h2) ?_
      by_cases h0 : m 14 i = 0
      · refine bi (h25.trans h0) ?_
        rintro k1 rfl
        rw [if_pos ⟨h2, h0⟩, eu] at hq
        rw [h24, e12, show (20 : Int32) = nI 20 from rfl, nI_add]
        exact hq _ (dpost_nil (k' := kset k 24 (ra i) (nI (u + 20))) (core_until hcore hi (by rw [← UB_up]; omega)) rfl (show QC.length ≤ c + Gr (m 10) r by omega))
      · rw [if_neg (fun e => h0 e.2)] at hq
        exact bn (by rw [h25]; exact h0) (hq _ (dpost_nil hid rfl (by omega)))
    · rw [if_neg (fun e => h2 e.1)] at hq
      exact bn (by rw [h23]; exact h2) (hq _ (dpost_nil hid rfl (by omega)))
def mRec (m : mS) (i : Nat) : mS := if m 10 i = 2 then (if m 12 i ≤ m 22 0 + 5 then m else mset m 12 i (m 22 0 + 5)) else m
theorem dv_recall {S0 : Nat} {k : kS} {m : mS} {n r d c t a i c1 : Nat} {ca ra : Nat → Nat} {A QC : List Nat} (h : Arr1 k m n r d c t ca ra A QC a) (h33 : k.2.1 33 a = some (ra i)) (hi : i < r) (h32 : k.2.1 32 a = some c1) (h30 : k.1 30 a = 6) :
    (∀ Q2 : mS → Prop, Q2 (mRec m i) → wX6_arrive m 4 (nI i) Q2) ∧ (∀ (b : Nat) (Q : kS → Prop), (∀ k', DPost k (mRec m i) n r d c t ca ra A QC k' → Q k') → wX5_deliver S0 b k a Q) := by
  obtain ⟨hcore, -, -, -, hl, -, -⟩ := h
  have hcore' := hcore
  obtain ⟨g1, ⟨r1, r2, r3⟩, ⟨d1, d2, d3⟩, g4, hR, -⟩ := hcore'
  have a3 := (hR.1 i hi).2.2
  have h23 : k.1 23 (ra i) = m 10 i := a3.2.2.1
  have h24 : k.1 24 (ra i) = m 12 i := a3.2.2.2.1
  obtain ⟨u, hu, e12⟩ : ∃ u, u ≤ UB t ∧ m 12 i = nI u := a3.2.2.2.2.2.2.2.2.2.1
  have hin : vp_in (nI i) 40 := q_in (by omega) (by decide)
  have hid : Core k m n r d ca ra A QC (UB (t + 1)) (EB c (t + 1)) := core_mono hcore (by rw [← UB_up]; omega) (by rw [← EB_up]; omega)
  have e5 : m 22 0 + 5 = nI (d + 5) := by rw [d1, show (5 : Int32) = nI 5 from rfl, nI_add]
  refine ⟨fun Q2 hq => ?_, fun b Q hq => sx_dv h32 h33 ⟨no_eq h30 (by decide), no_eq h30 (by decide), no_eq h30 (by decide), no_eq h30 (by decide), fun _ => ?_, fun e => absurd h30 e.2.2.2.2⟩⟩
  · refine bi (by decide) (bn (by decide) (bn (by decide) (bi rfl ⟨hin, ?_⟩)))
    rw [q_cl (show i < 1000000 by omega)]
    unfold mRec at hq
    by_cases h2 : m 10 i = 2
    · rw [if_pos h2] at hq
      refine bi h2 ⟨hin, ?_⟩
      by_cases h5 : m 12 i ≤ m 22 0 + 5
      · refine bi h5 ⟨hin, hin, ?_⟩
        rintro m1 rfl
        rw [if_pos h5] at hq
        rw [ms_id]
        exact hq
      · refine bn h5 ⟨hin, ?_⟩
        rintro m1 rfl
        rw [if_neg h5] at hq
        exact hq
    · rw [if_neg h2] at hq
      refine bn h2 ⟨hin, hin, ?_⟩
      rintro m1 rfl
      rw [ms_id]
      exact hq
  · unfold mRec at hq
    by_cases h2 : m 10 i = 2
    · rw [if_pos h2] at hq
      refine bi (h23.trans h2) ?_
      rintro k1 rfl
      have e5k : k.1 2 0 + 5 = nI (d + 5) := by rw [d2, show (5 : Int32) = nI 5 from rfl, nI_add]
      rw [h24, e5k]
      by_cases h5 : m 12 i ≤ m 22 0 + 5
      · rw [if_pos h5] at hq
        have hlt : ¬ nI (d + 5) < m 12 i := by
          rw [e5] at h5
          rw [Int32.le_iff_toInt_le] at h5
          rw [Int32.lt_iff_toInt_lt]
          omega
        rw [if_neg hlt]
        have := core_until (t := t) hcore hi (u := u) (by rw [← UB_up]; omega)
        rw [← e12, ms_id] at this
        exact hq _ (dpost_nil (k' := kset k 24 (ra i) (m 12 i)) this rfl (by omega))
      · rw [if_neg h5] at hq
        have hlt : nI (d + 5) < m 12 i := by
          rw [e5] at h5
          rw [Int32.le_iff_toInt_le] at h5
          rw [Int32.lt_iff_toInt_lt]
          omega
        rw [if_pos hlt]
        rw [e5] at hq
        exact hq _ (dpost_nil (k' := kset k 24 (ra i) (nI (d + 5))) (core_until (t := t) hcore hi (u := d + 5) (by unfold UB; omega)) rfl (show QC.length ≤ c + Gr (m 10) r by omega))
    · rw [if_neg h2] at hq
      exact bn (by rw [h23]; exact h2) (hq _ (dpost_nil hid rfl (by omega)))
