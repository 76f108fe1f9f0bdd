/-! 'first' is the list's own choice -/
def BestOf (P : Nat → Prop) (wy : Nat → Nat) (lo hi : Nat) (o : Option Nat) : Prop := match o with
  | none => ∀ j, lo ≤ j → j < hi → ¬ P j
  | some b => lo ≤ b ∧ b < hi ∧ P b ∧ ∀ j, lo ≤ j → j < hi → P j → wy b ≤ wy j ∧ (j < b → wy b < wy j)
theorem best_uniq {P : Nat → Prop} {wy : Nat → Nat} {n : Nat} {o o' : Option Nat} (h : BestOf P wy 0 n o) (h' : BestOf P wy 0 n o') : o = o' := by
  rcases o with _ | b
  · rcases o' with _ | b'
    · rfl
    · exact absurd h'.2.2.1 (h b' (Nat.zero_le _) h'.2.1)
  · rcases o' with _ | b'
    · exact absurd h.2.2.1 (h' b (Nat.zero_le _) h.2.1)
    · have h1 := h.2.2.2 b' (Nat.zero_le _) h'.2.1 h'.2.2.1
      have h2 := h'.2.2.2 b (Nat.zero_le _) h.2.1 h.2.2.1
      congr 1
      by_cases e : b < b'
      · have := h2.2 e; omega
      · by_cases e2 : b' < b
        · have := h1.2 e2; omega
        · omega
theorem nb_best (M : mS) (r a : Nat) : ∀ n, BestOf (may M r) (fun j => wayN a (hN M j)) 0 n (nb M r a n) := by
  intro n
  induction n with
  | zero => intro j _ h; omega
  | succ n ih =>
    show BestOf _ _ 0 (n + 1) (nstep M r a n (nb M r a n))
    unfold nstep
    by_cases hm : may M r n
    · rw [if_pos hm]
      rcases hb : nb M r a n with _ | b
      · rw [hb] at ih
        rw [if_pos rfl]
        refine ⟨Nat.zero_le _, by omega, hm, fun j _ hj hp => ?_⟩
        by_cases e : j = n
        · subst e
          exact ⟨Nat.le_refl _, fun h => absurd h (by omega)⟩
        · exact absurd hp (ih j (Nat.zero_le _) (by omega))
      · rw [hb] at ih
        rw [if_neg (by simp)]
        obtain ⟨-, i2, i3, i4⟩ := ih
        show BestOf _ _ 0 (n + 1) (if wayN a (hN M n) < wayN a (hN M b) then some n else some b)
        by_cases hl : wayN a (hN M n) < wayN a (hN M b)
        · rw [if_pos hl]
          refine ⟨Nat.zero_le _, by omega, hm, fun j _ hj hp => ?_⟩
          by_cases e : j = n
          · subst e
            exact ⟨Nat.le_refl _, fun h => absurd h (by omega)⟩
          · have := i4 j (Nat.zero_le _) (by omega) hp
            have h1 := this.1
            simp only at h1 ⊢
            exact ⟨by omega, fun _ => by omega⟩
        · rw [if_neg hl]
          refine ⟨Nat.zero_le _, by omega, i3, fun j _ hj hp => ?_⟩
          by_cases e : j = n
          · subst e
            simp only
            exact ⟨by omega, fun h => absurd h (by omega)⟩
          · exact i4 j (Nat.zero_le _) (by omega) hp
    · rw [if_neg hm]
      rcases hb : nb M r a n with _ | b
      · rw [hb] at ih
        intro j _ hj hp
        by_cases e : j = n
        · exact hm (e ▸ hp)
        · exact ih j (Nat.zero_le _) (by omega) hp
      · rw [hb] at ih
        obtain ⟨-, i2, i3, i4⟩ := ih
        refine ⟨Nat.zero_le _, by omega, i3, fun j _ hj hp => ?_⟩
        by_cases e : j = n
        · exact absurd (e ▸ hp) hm
        · exact i4 j (Nat.zero_le _) (by omega) hp
theorem lway : ∀ h, h < 6 → ∀ a, a < 6 → (nI a ≤ nI h → 1 + (nI h - nI a) = nI (wayN a h)) ∧ (¬ nI a ≤ nI h → 1 + (nI a - nI h) = nI (wayN a h)) := by decide
theorem lway_ok {S0 : Nat} {k : kS} {Q : Int32 → kS → Prop} {h a : Nat} (hh : h < 6) (ha : a < 6) (q : Q (nI (wayN a h)) k) : wL_way S0 k (nI h) (nI a) Q :=
  ⟨fun e => by rw [(lway h hh a ha).1 e]; exact q, fun e => by rw [(lway h hh a ha).2 e]; exact q⟩
theorem req_may {m : mS} {r a : Nat} {t2 : Int32} (h13 : m 13 r = 0) (j : Nat) : may (mReq m r a t2) r j ↔ (m 1 j = t2 ∧ m 4 j = 1 ∧ m 0 j ≠ nI a) := by
  have e8 : mReq m r a t2 8 r = nI a := by
    show upd (m 8) r (nI a) r = _
    exact upd_s _ _ _
  have e9 : mReq m r a t2 9 r = t2 := by
    show upd (m 9) r t2 r = _
    exact upd_s _ _ _
  have e13 : mReq m r a t2 13 r = 0 := h13
  unfold may
  rw [e8, e9, e13, Int32.zero_shiftRight, Int32.zero_and]
  exact ⟨fun h => h.1, fun h => ⟨h, rfl⟩⟩
theorem wayN_pos (a b : Nat) : 1 ≤ wayN a b ∧ (a < 6 → b < 6 → wayN a b ≤ 6) := by
  unfold wayN
  split <;> exact ⟨by omega, fun _ _ => by omega⟩
theorem first_ok {S0 : Nat} {k : kS} {m : mS} {n r d a : Nat} {t2 : Int32} {f1 f2 : Nat → Int32} {Q : Int32 → kS → Prop} (h : Ob k m n r d) (hn : n ≤ 20) (hH : HQ m n r f1 f2) (ha : a < 6) (h13 : m 13 r = 0) (hh : ∀ j, j < n → ∃ h, h < 6 ∧ m 0 j = nI h) (q : Q (ob (nb (mReq m r a t2) r a n)) k) : wL_first S0 k f1 (nI a) t2 Q := by
  obtain ⟨H1, H2, H3, -⟩ := hH
  have loop : ∀ (z : Nat) (o : Option Nat) (N : Nat), z ≤ n → N + z ≤ 20 → BestOf (may (mReq m r a t2) r) (fun j => wayN a (hN (mReq m r a t2) j)) z n o → wL_first_11 S0 Q (z + 1) (nI a) t2 (ob o) (nI z - 1) f1 N k := by
    intro z
    induction z with
    | zero =>
      intro o N hz hZ hB
      unfold wL_first_11
      rw [best_uniq hB (nb_best _ _ _ _)]
      exact ⟨by omega, bi (by decide) q⟩
    | succ z ih =>
      intro o N hz hZ hB
      have hzn : z < n := by omega
      obtain ⟨hz0, hz1, e0⟩ := hh z hzn
      have hw0 : hN (mReq m r a t2) z = hz0 := by
        show (m 0 z).toNatClampNeg = _
        rw [e0, q_cl (by omega)]
      have same : ¬ may (mReq m r a t2) r z → ∀ N, N + z ≤ 20 → wL_first_11 S0 Q (z + 1) (nI a) t2 (ob o) (nI z + -1) f1 N k := by
        intro hm N hZ
        rw [← Int32.sub_eq_add_neg]
        refine ih o N (by omega) hZ ?_
        rcases o with _ | b
        · intro j hj1 hj2 hp
          by_cases e : j = z
          · exact hm (e ▸ hp)
          · exact hB j (by omega) hj2 hp
        · obtain ⟨i1, i2, i3, i4⟩ := hB
          refine ⟨by omega, i2, i3, fun j hj1 hj2 hp => ?_⟩
          by_cases e : j = z
          · exact absurd (e ▸ hp) hm
          · exact i4 j (by omega) hj2 hp
      have hit := req_may (a := a) (t2 := t2) h13 z
      unfold wL_first_11
      rw [nI_pred]
      refine ⟨by omega, bn (q_nn (by omega)) ?_⟩
      rw [show (20 : Int32) = nI 20 from rfl, nI_add, q_cl (by omega), q_cl (by omega), (H3 z hzn).1, (H3 z hzn).2]
      refine ⟨q_in (by omega) (by decide), fun e1 => ⟨by omega, ob_listed h hzn ⟨fun e4 => ⟨q_in (by omega) (by decide), fun e8 => ?_, fun e8 => ?_⟩, fun e4 => ?_⟩⟩, fun e1 => ?_⟩
      · exact same (fun hm => (hit.mp hm).2.2 e8) (N + 1) (by omega)
      · have hm : may (mReq m r a t2) r z := hit.mpr ⟨e1, e4, e8⟩
        rcases o with _ | b
        · refine bi (by decide) ?_
          rw [← Int32.sub_eq_add_neg]
          refine ih (some z) (N + 1) (by omega) (by omega) ⟨Nat.le_refl _, hzn, hm, fun j hj1 hj2 hp => ?_⟩
          by_cases e : j = z
          · subst e
            exact ⟨Nat.le_refl _, fun h => absurd h (by omega)⟩
          · exact absurd hp (hB j (by omega) hj2)
        · obtain ⟨i1, i2, i3, i4⟩ := hB
          obtain ⟨hb0, hb1, eb⟩ := hh b i2
          have hwb : hN (mReq m r a t2) b = hb0 := by
            show (m 0 b).toNatClampNeg = _
            rw [eb, q_cl (by omega)]
          have hob : ob (some b) = nI b := rfl
          have hwz := (wayN_pos a hz0).2 ha hz1
          have hwb2 := (wayN_pos a hb0).2 ha hb1
          rw [hob]
          refine bn (q_nn (by omega)) ⟨q_in (by omega) (by decide), ?_⟩
          rw [e0]
          refine lway_ok hz1 ha ⟨q_in (by omega) (by decide), ?_⟩
          rw [q_cl (by omega), (H3 b i2).1, eb]
          refine lway_ok hb1 ha ⟨fun hl => ?_, fun hl => ?_⟩
          · rw [q_lt (by omega) (by omega)] at hl
            rw [← Int32.sub_eq_add_neg]
            refine ih (some b) (N + 1) (by omega) (by omega) ⟨by omega, i2, i3, fun j hj1 hj2 hp => ?_⟩
            by_cases e : j = z
            · subst e
              simp only [hw0, hwb]
              exact ⟨by omega, fun _ => hl⟩
            · exact i4 j (by omega) hj2 hp
          · rw [q_lt (by omega) (by omega)] at hl
            rw [← Int32.sub_eq_add_neg]
            refine ih (some z) (N + 1) (by omega) (by omega) ⟨Nat.le_refl _, hzn, hm, fun j hj1 hj2 hp => ?_⟩
            by_cases e : j = z
            · subst e
              exact ⟨Nat.le_refl _, fun h => absurd h (by omega)⟩
            · have h4 := (i4 j (by omega) hj2 hp).1
              simp only [hw0, hwb] at h4 ⊢
              exact ⟨by omega, fun h => absurd h (by omega)⟩
      · exact same (fun hm => e4 (hit.mp hm).2.1) (N + 1) (by omega)
      · exact same (fun hm => e1 (hit.mp hm).1) N (by omega)
  unfold wL_first
  refine ⟨by unfold vp_in; decide, n + 1, ?_⟩
  rw [show f1 ((40 : Int32).toNatClampNeg) = nI n from H1]
  exact loop n none 0 (Nat.le_refl _) (by omega) (fun j h1 h2 => by omega)
