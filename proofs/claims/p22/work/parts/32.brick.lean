/-! PURE: bricks; the relation's pieces under changes -/
theorem b1 {X Y : Prop} (h : Y) : ((1 : Int32) = 0 → X) ∧ (¬ (1 : Int32) = 0 → Y) := ⟨fun e => absurd e (by decide), fun _ => h⟩
theorem b0 {X Y : Prop} (h : X) : ((0 : Int32) = 0 → X) ∧ (¬ (0 : Int32) = 0 → Y) := ⟨fun _ => h, fun e => absurd rfl e⟩
theorem bi {P X Y : Prop} (hp : P) (h : X) : (P → X) ∧ (¬ P → Y) := ⟨fun _ => h, fun e => absurd hp e⟩
theorem bn {P X Y : Prop} (hp : ¬ P) (h : Y) : (P → X) ∧ (¬ P → Y) := ⟨fun e => absurd e hp, fun _ => h⟩
theorem bS {c : Nat} {X : Prop} {Y : Nat → Prop} (h : Y c) : (some c = none → X) ∧ ∀ o, some c = some o → Y o := ⟨fun e => (nomatch e), fun o e => by cases e; exact h⟩
theorem bN {X : Prop} {Y : Nat → Prop} (h : X) : ((none : Option Nat) = none → X) ∧ ∀ o, (none : Option Nat) = some o → Y o := ⟨fun _ => h, fun o e => (nomatch e)⟩
theorem upd_s (f : Nat → Int32) (i : Nat) (v : Int32) : upd f i v i = v := if_pos rfl
theorem upd_n (f : Nat → Int32) {i j : Nat} (v : Int32) (h : j ≠ i) : upd f i v j = f j := if_neg h
theorem ks_n (k : kS) (a i : Nat) (v : Int32) {b j : Nat} (h : j ≠ i) : (kset k a i v).1 b j = k.1 b j := by
  show (if b = a then upd (k.1 b) i v else k.1 b) j = _
  by_cases e : b = a
  · rw [if_pos e]; exact upd_n _ _ h
  · rw [if_neg e]
theorem ks_c (k : kS) (a i : Nat) (v : Int32) {b : Nat} (h : b ≠ a) : (kset k a i v).1 b = k.1 b := if_neg h
theorem ms_n (m : mS) (a i : Nat) (v : Int32) {b j : Nat} (h : j ≠ i) : mset m a i v b j = m b j := by
  show (if b = a then upd (m b) i v else m b) j = _
  by_cases e : b = a
  · rw [if_pos e]; exact upd_n _ _ h
  · rw [if_neg e]
theorem ms_c (m : mS) (a i : Nat) (v : Int32) {b : Nat} (h : b ≠ a) : mset m a i v b = m b := if_neg h
theorem cRow_cg {f f' g g' : Nat → Int32} {i : Nat} (h : cRow f g i) (hf : ∀ a, 10 ≤ a → a ≤ 17 → f' a = f a) (hg : ∀ a, a ≤ 6 → g' a = g a) : cRow f' g' i := by
  unfold cRow at h ⊢
  rw [hf 10 (by omega) (by omega), hf 11 (by omega) (by omega), hf 12 (by omega) (by omega), hf 13 (by omega) (by omega), hf 14 (by omega) (by omega), hf 15 (by omega) (by omega), hf 16 (by omega) (by omega), hf 17 (by omega) (by omega), hg 0 (by omega), hg 1 (by omega), hg 2 (by omega), hg 3 (by omega), hg 4 (by omega), hg 5 (by omega), hg 6 (by omega)]
  exact h
theorem pC_inj {k : kS} {m : mS} {n : Nat} {ca : Nat → Nat} (h : pC k m n ca) (hn : n ≤ 20) {i j : Nat} (hi : i < n) (hj : j < n) (e : ca i = ca j) : i = j := by
  have h1 := (h.1 i hi).2.2.1
  have h2 := (h.1 j hj).2.2.1
  simp only at h1 h2
  rw [e, h2] at h1
  exact (q_inj (by omega) (by omega) h1).symm
theorem pC_cg {k k' : kS} {m m' : mS} {n : Nat} {ca : Nat → Nat} (h : pC k m n ca) (h0 : k'.2.1 0 = k.2.1 0) (h2 : ∀ i, i < n → k'.2.2 (ca i) = k.2.2 (ca i)) (hk : ∀ a, 10 ≤ a → a ≤ 17 → ∀ i, i < n → k'.1 a (ca i) = k.1 a (ca i)) (hm : ∀ a, a ≤ 6 → m' a = m a) : pC k' m' n ca := by
  refine ⟨fun i hi => ?_, fun i hi h20 => ?_⟩
  · obtain ⟨a1, a2, a3⟩ := h.1 i hi
    refine ⟨by rw [h0]; exact a1, by rw [h2 i hi]; exact a2, cRow_cg a3 (fun a h1 h2 => hk a h1 h2 i hi) (fun a ha => by rw [hm a ha])⟩
  · rw [h0, hm 6 (by omega)]; exact h.2 i hi h20
theorem pC_step {k k' : kS} {m m' : mS} {n : Nat} {ca : Nat → Nat} (h : pC k m n ca) (hn : n ≤ 20) {i : Nat} (hi : i < n) (h0 : k'.2.1 0 = k.2.1 0) (h2 : k'.2.2 = k.2.2) (hk : ∀ a, 10 ≤ a → a ≤ 17 → ∀ q, q ≠ ca i → k'.1 a q = k.1 a q) (hm : ∀ a, a ≤ 6 → ∀ j, j ≠ i → m' a j = m a j) (hrow : cRow (fun a => k'.1 a (ca i)) (fun a => m' a i) i) : pC k' m' n ca := by
  refine ⟨fun j hj => ?_, fun j hj h20 => ?_⟩
  · by_cases e : j = i
    · subst e
      exact ⟨by rw [h0]; exact (h.1 j hj).1, by rw [h2]; exact (h.1 j hj).2.1, hrow⟩
    · obtain ⟨a1, a2, a3⟩ := h.1 j hj
      have hne : ca j ≠ ca i := fun e2 => e (pC_inj h hn hj hi e2)
      exact ⟨by rw [h0]; exact a1, by rw [h2]; exact a2, cRow_cg a3 (fun a h1 h2 => hk a h1 h2 _ hne) (fun a ha => hm a ha j e)⟩
  · rw [h0, hm 6 (by omega) j (by omega)]; exact h.2 j hj h20
theorem rRow_cg {f f' : Nat → Int32} {p : Option Nat} {g g' : Nat → Int32} {n : Nat} {ca : Nat → Nat} {U U' : Nat} (h : rRow f p g n ca U) (hU : U ≤ U') (hf : ∀ a, 20 ≤ a → a ≤ 26 → f' a = f a) (hg : ∀ a, 8 ≤ a → a ≤ 14 → g' a = g a) : rRow f' p g' n ca U' := by
  unfold rRow at h ⊢
  rw [hf 20 (by omega) (by omega), hf 21 (by omega) (by omega), hf 23 (by omega) (by omega), hf 24 (by omega) (by omega), hf 25 (by omega) (by omega), hf 26 (by omega) (by omega), hg 8 (by omega) (by omega), hg 9 (by omega) (by omega), hg 10 (by omega) (by omega), hg 11 (by omega) (by omega), hg 12 (by omega) (by omega), hg 13 (by omega) (by omega), hg 14 (by omega) (by omega)]
  obtain ⟨h1, h2, h3, h4, h5, h6, h7, h8, h9, ⟨u, hu, hu2⟩, h11⟩ := h
  exact ⟨h1, h2, h3, h4, h5, h6, h7, h8, h9, ⟨u, by omega, hu2⟩, h11⟩
theorem pR_cg {k k' : kS} {m m' : mS} {n r : Nat} {ca ra : Nat → Nat} {U U' : Nat} (h : pR k m n r ca ra U) (hU : U ≤ U') (h0 : k'.2.1 1 = k.2.1 1) (h2 : ∀ i, i < r → k'.2.2 (ra i) = k.2.2 (ra i)) (hp : ∀ i, i < r → k'.2.1 22 (ra i) = k.2.1 22 (ra i)) (hk : ∀ a, 20 ≤ a → a ≤ 26 → ∀ i, i < r → k'.1 a (ra i) = k.1 a (ra i)) (hm : ∀ a, 8 ≤ a → a ≤ 14 → m' a = m a) : pR k' m' n r ca ra U' := by
  refine ⟨fun i hi => ?_, fun i hi h40 => ?_, h.2.2⟩
  · obtain ⟨a1, a2, a3⟩ := h.1 i hi
    refine ⟨by rw [h0]; exact a1, by rw [h2 i hi]; exact a2, ?_⟩
    rw [hp i hi]
    exact rRow_cg a3 hU (fun a h1 h2 => hk a h1 h2 i hi) (fun a h1 h2 => by rw [hm a h1 h2])
  · rw [h0, hm 12 (by omega) (by omega), hm 13 (by omega) (by omega), hm 14 (by omega) (by omega)]; exact h.2.1 i hi h40
theorem pR_step {k k' : kS} {m m' : mS} {n r : Nat} {ca ra : Nat → Nat} {U U' : Nat} (h : pR k m n r ca ra U) (hU : U ≤ U') {i : Nat} (hi : i < r) (h0 : k'.2.1 1 = k.2.1 1) (h2 : k'.2.2 = k.2.2) (hp : ∀ q, q ≠ ra i → k'.2.1 22 q = k.2.1 22 q) (hk : ∀ a, 20 ≤ a → a ≤ 26 → ∀ q, q ≠ ra i → k'.1 a q = k.1 a q) (hm : ∀ a, 8 ≤ a → a ≤ 14 → ∀ j, j ≠ i → m' a j = m a j) (hrow : rRow (fun a => k'.1 a (ra i)) (k'.2.1 22 (ra i)) (fun a => m' a i) n ca U') : pR k' m' n r ca ra U' := by
  refine ⟨fun j hj => ?_, fun j hj h40 => ?_, h.2.2⟩
  · by_cases e : j = i
    · subst e
      exact ⟨by rw [h0]; exact (h.1 j hj).1, by rw [h2]; exact (h.1 j hj).2.1, hrow⟩
    · obtain ⟨a1, a2, a3⟩ := h.1 j hj
      have hne : ra j ≠ ra i := fun e2 => e (h.2.2 j i hj hi e2)
      refine ⟨by rw [h0]; exact a1, by rw [h2]; exact a2, ?_⟩
      rw [hp _ hne]
      exact rRow_cg a3 hU (fun a h1 h2 => hk a h1 h2 _ hne) (fun a h1 h2 => hm a h1 h2 j e)
  · have := h.2.1 j hj h40
    rw [h0, hm 12 (by omega) (by omega) j (by omega), hm 13 (by omega) (by omega) j (by omega), hm 14 (by omega) (by omega) j (by omega)]; exact this
theorem pA_mono {k : kS} {m : mS} {n E E' : Nat} (h : pA k m n E) (hE : E ≤ E') : pA k m n E' := by
  refine ⟨h.1, fun j hj => ?_, h.2.2⟩
  have := h.2.1 j hj
  omega
theorem pR_mono {k : kS} {m : mS} {n r : Nat} {ca ra : Nat → Nat} {U U' : Nat} (h : pR k m n r ca ra U) (hU : U ≤ U') : pR k m n r ca ra U' := pR_cg h hU rfl (fun _ _ => rfl) (fun _ _ => rfl) (fun _ _ _ _ _ => rfl) (fun _ _ _ => rfl)
/-- the class' queue against the reference's list: j of its rows are dealt with on day d -/
def Srt (k : kS) (A QC : List Nat) (d j : Nat) : Prop :=
  QC.Pairwise (fun a b => arr k a ≤ arr k b) ∧ (∀ v, d < v → QC.filter (fun a => arr k a == v) = A.filter (fun a => arr k a == v)) ∧ QC.filter (fun a => arr k a == d) = (A.drop j).filter (fun a => arr k a == d) ∧ ∀ a, a ∈ QC → d ≤ arr k a
/-- after c calls -/
def Rel (c : Nat) (k : kS) (m : mS) : Prop := ∃ (n r d t : Nat) (ca ra : Nat → Nat) (A QC : List Nat), Core k m n r d ca ra A QC (UB t) (EB c t) ∧ Srt k A QC d A.length ∧ A.length ≤ QC.length ∧ d ≤ 100 * c ∧ t ≤ 552 * d ∧ QC.length ≤ c + Gr (m 10) r
/-- a call of both -/
def OpI (R : kS → mS → Prop) (E1 : String) (w6 : (Int32 → mS → Prop) → Prop) (w5 : (Int32 → kS → Prop) → (String → kS → Prop) → Prop) : Prop :=
  ∃ (v : Int32) (m1 : mS), (∀ Q2 : Int32 → mS → Prop, Q2 v m1 → w6 Q2) ∧ ((m1 23 0 = 0 ∧ ∀ (Q : Int32 → kS → Prop) (QX : String → kS → Prop), (∀ k1, R k1 m1 → Q v k1) → w5 Q QX) ∨ (m1 23 0 = 1 ∧ ∀ (Q : Int32 → kS → Prop) (QX : String → kS → Prop), (∀ k1, R k1 m1 → QX E1 k1) → w5 Q QX) ∨ (m1 23 0 = 2 ∧ ∀ (Q : Int32 → kS → Prop) (QX : String → kS → Prop), (∀ k1, R k1 m1 → QX "java/lang/IllegalStateException" k1) → w5 Q QX))
def OpI1 (R : kS → mS → Prop) (E1 : String) (w6 : (Int32 → mS → Prop) → Prop) (w5 : (Int32 → kS → Prop) → (String → kS → Prop) → Prop) : Prop :=
  ∃ (v : Int32) (m1 : mS), (∀ Q2 : Int32 → mS → Prop, Q2 v m1 → w6 Q2) ∧ ((m1 23 0 = 0 ∧ ∀ (Q : Int32 → kS → Prop) (QX : String → kS → Prop), (∀ k1, R k1 m1 → Q v k1) → w5 Q QX) ∨ (m1 23 0 = 1 ∧ ∀ (Q : Int32 → kS → Prop) (QX : String → kS → Prop), (∀ k1, R k1 m1 → QX E1 k1) → w5 Q QX))
theorem EB_step (c t : Nat) {x : Nat} (h : x ≤ 100000) : EB c t + x ≤ EB (c + 1) t := by unfold EB; omega
theorem core_thr {k : kS} {m : mS} {n r d : Nat} {ca ra : Nat → Nat} {A QC : List Nat} {U E E' : Nat} (h : Core k m n r d ca ra A QC U E) (hE : E ≤ E') (x : Int32) : Core k (mset m 23 0 x) n r d ca ra A QC U E' := by
  obtain ⟨h1, h2, h3, h4, h5, h6, h7, h8⟩ := h
  exact ⟨h1, h2, h3, h4, h5, pA_mono (k := k) (m := m) h6 hE, h7, h8⟩
theorem rel_thr {c : Nat} {k : kS} {m : mS} (h : Rel c k m) (x : Int32) : Rel (c + 1) k (mset m 23 0 x) := by
  obtain ⟨n, r, d, t, ca, ra, A, QC, h1, h2, h3, h4, h5, h6⟩ := h
  exact ⟨n, r, d, t, ca, ra, A, QC, core_thr h1 (EB_step c t (x := 0) (by omega)) x, h2, h3, by omega, h5, Nat.le_trans h6 (show c + Gr (m 10) r ≤ c + 1 + Gr (m 10) r by omega)⟩
theorem op_inHandsOf {S0 c : Nat} {k : kS} {m : mS} (p : Int32) (h : Rel c k m) : OpI1 (Rel (c + 1)) "java/lang/IndexOutOfBoundsException" (wX6_inHandsOf m p) (wX5_inHandsOf S0 k p) := by
  have h' := h
  obtain ⟨n, r, d, t, ca, ra, A, QC, ⟨⟨c1, c2, c3⟩, -, -, hC, -⟩, -⟩ := h'
  rcases q_rng p n (by omega) with ⟨i, hi, rfl⟩ | ⟨hp, -⟩
  · obtain ⟨a1, a2, a3⟩ := hC.1 i hi
    refine ⟨m 3 i, mset m 23 0 0, fun Q2 hq => ?_, Or.inl ⟨rfl, fun Q QX hq => ?_⟩⟩
    · refine sm_copy_y c1 c3 hi (b1 (sm_holds0 (b0 ⟨q_in (by omega) (by decide), ?_⟩)))
      rw [q_cl (by omega)]
      exact hq
    · refine sx_copy_y (by omega) a1 (bS ?_)
      rw [show k.1 13 (ca i) = m 3 i from a3.2.2.2.1]
      exact hq k (rel_thr h 0)
  · refine ⟨-1, mset m 23 0 1, fun Q2 hq => ?_, Or.inr ⟨rfl, fun Q QX hq => ?_⟩⟩
    · exact sm_copy_n c1 c3 hp (b0 (sm_holds1 (b1 hq)))
    · exact sx_copy_n c3 hp (fun i h1 h2 => (hC.2 i h1 h2).1) (hq k (rel_thr h 1))
