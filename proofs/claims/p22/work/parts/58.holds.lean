/-! 'holds' -/
def US (U : Int32) (T : Nat → Prop) : Prop := ∀ j, j < 20 → (T j → (U >>> (nI j &&& 31)) &&& 1 = 1) ∧ (¬ T j → (U >>> (nI j &&& 31)) &&& 1 = 0)
theorem us_0 : US 0 (fun _ => False) := by
  intro j hj
  refine ⟨fun h => h.elim, fun _ => ?_⟩
  rw [Int32.zero_shiftRight, Int32.zero_and]
set_option maxRecDepth 100000 in
theorem bt1 : ∀ j, j < 20 → ∀ b, b < 20 → (((1 : Int32) <<< (nI b &&& 31)) >>> (nI j &&& 31)) &&& 1 = if j = b then 1 else 0 := by decide +kernel
theorem or_and1 (x y z : Int32) : (x ||| y) &&& z = (x &&& z) ||| (y &&& z) := by
  apply Int32.toBitVec_inj.mp
  simp only [Int32.toBitVec_and, Int32.toBitVec_or]
  ext i
  simp [Bool.and_or_distrib_right]
theorem us_or {U : Int32} {T : Nat → Prop} (h : US U T) {b : Nat} (hb : b < 20) : US (U ||| (1 <<< (nI b &&& 31))) (fun j => T j ∨ j = b) := by
  intro j hj
  obtain ⟨h1, h0⟩ := h j hj
  rw [Int32.shiftRight_or, or_and1, bt1 j hj b hb]
  by_cases ht : T j
  · rw [h1 ht]
    refine ⟨fun _ => ?_, fun h => absurd (Or.inl ht) h⟩
    split <;> decide
  · rw [h0 ht]
    refine ⟨fun h => ?_, fun h => ?_⟩
    · rcases h with h | h
      · exact absurd h ht
      · rw [if_pos h]; decide
    · rw [if_neg (fun e => h (Or.inr e))]; decide
theorem us_cg {U : Int32} {T T' : Nat → Prop} (h : US U T) (e : ∀ j, j < 20 → (T j ↔ T' j)) : US U T' := fun j hj => ⟨fun t => (h j hj).1 ((e j hj).mpr t), fun t => (h j hj).2 (fun t' => t ((e j hj).mp t'))⟩
section HO
variable {S0 : Nat} {k : kS} {m : mS} {n r d c u : Nat} {f1 f2 : Nat → Int32} {Q : Int32 → kS → Prop}
theorem holds_l277 (h : Ob k m n r d) (hS : JS (m 21)) (hr : r ≤ 20) (hH : HQ m n r f1 f2) (q : Q 1 k) : ∀ y x N, x + y = 36 → N + 4 * y + 3 ≤ 320 → wL_holds_277 S0 Q (y + 1) (nI x) f1 f2 N k := by
  have c40 : f2 ((40 : Int32).toNatClampNeg) = nI r := hH.2.1
  intro y
  induction y with
  | zero =>
    intro x N hx hN
    obtain rfl : x = 36 := by omega
    unfold wL_holds_277
    rw [c40]
    exact ⟨by omega, bi (by decide) ⟨by unfold vp_in; decide, by omega, ob_due_n h (Nat.le_refl _) (by omega) (bi rfl ⟨by omega, ob_stateOf_n h (bi rfl q)⟩)⟩⟩
  | succ y ih =>
    intro x N hx hN
    unfold wL_holds_277
    have hx6 : x / 6 < 6 := by omega
    have hm6 : x % 6 < 6 := Nat.mod_lt _ (by omega)
    have ed : nI x / 6 = nI (x / 6) := nI_dv (N := 6) (by omega) (by omega) (by omega)
    have em : nI x - nI x / 6 * 6 = nI (x % 6) := nI_md (N := 6) (by omega) (by omega) (by omega)
    rw [em, ed, nI_1]
    refine ⟨by omega, bn (by rw [show (36 : Int32) = nI 36 from rfl, q_le (by omega) (by omega)]; omega) ⟨by omega, ob_owed h hx6 hm6 ⟨by omega, ob_owed h hm6 hx6 (bi (ob_anti h hx6 hm6) ⟨by omega, ob_quota h hm6 ?_⟩)⟩⟩⟩
    have hq := hS (x % 6) hm6
    refine bn ?_ ⟨by omega, ob_quota h hm6 (bi ?_ (ih (x + 1) _ (by omega) (by omega)))⟩
    · rcases hq with e | e | e <;> rw [e] <;> decide
    · rcases hq with e | e | e <;> rw [e] <;> decide
theorem holds_l215 (h : Ob k m n r d) (hJ : J m n r c 0 u) (hn : n ≤ 20) (hr : r ≤ 20) (hH : HQ m n r f1 f2) (q : Q 1 k) {U : Int32} (hU : US U (fun j => ∃ i, i < r ∧ bz (m 10 i) ∧ m 11 i = nI j)) : ∀ y x N, x + y = n → N + 2 * y + 147 ≤ 320 → wL_holds_215 S0 Q (y + 1) U (nI x) f1 f2 N k := by
  have c40 : f1 ((40 : Int32).toNatClampNeg) = nI n := hH.1
  intro y
  induction y with
  | zero =>
    intro x N hx hN
    obtain rfl : x = n := by omega
    unfold wL_holds_215
    rw [c40]
    exact ⟨by omega, by unfold vp_in; decide, bi (by rw [q_le (by omega) (by omega)]; omega) ⟨by omega, 37, holds_l277 h hJ.2.2.1 hr hH q 36 0 N rfl (by omega)⟩⟩
  | succ y ih =>
    intro x N hx hN
    have hxn : x < n := by omega
    unfold wL_holds_215
    rw [c40, nI_1, q_cl (by omega)]
    have hk := hJ.2.1 x hxn
    have l1 : ¬ m 4 x < -1 := by rcases hk with e | e | e <;> rw [e] <;> decide
    have l2 : m 4 x ≤ 1 := by rcases hk with e | e | e <;> rw [e] <;> decide
    refine ⟨by omega, by unfold vp_in; decide, bn (by rw [q_le (by omega) (by omega)]; omega) ⟨by omega, ob_listed h hxn ⟨fun e => ⟨by omega, ob_hands h hxn ⟨q_in (by omega) (by decide), bi ?_ (bn l1 (bi l2 (ih (x + 1) _ (by omega) (by omega))))⟩⟩, fun e => bn l1 (bi l2 (ih (x + 1) _ (by omega) (by omega)))⟩⟩⟩
    rw [(hH.2.2.1 x hxn).1]
    rcases hJ.1.2.2 x hxn with ⟨e3, -⟩ | ht
    · exact e3
    · have h1 := (hU x (by omega)).1 ht
      rw [e] at h1
      exact absurd h1 (by decide)
theorem holds_l5 (h : Ob k m n r d) (hJ : J m n r c 0 u) (hn : n ≤ 20) (hr : r ≤ 20) (hc : c ≤ 600) (hh : ∀ j, j < n → ∃ h, h < 6 ∧ m 0 j = nI h) (hH : HQ m n r f1 f2) (q : Q 1 k) : ∀ y x N (U : Int32), x + y = r → N + 6 * y + 187 ≤ 320 → US U (fun j => ∃ i, i < x ∧ bz (m 10 i) ∧ m 11 i = nI j) → wL_holds_5 S0 Q (y + 1) U (nI x) f1 f2 N k := by
  have c41 : f1 ((40 : Int32).toNatClampNeg) = nI n := hH.1
  have c40 : f2 ((40 : Int32).toNatClampNeg) = nI r := hH.2.1
  intro y
  induction y with
  | zero =>
    intro x N U hx hN hU
    obtain rfl : x = r := by omega
    unfold wL_holds_5
    rw [c40]
    exact ⟨by omega, by unfold vp_in; decide, bi (by rw [q_le (by omega) (by omega)]; omega) ⟨by omega, n + 1, holds_l215 h hJ hn hr hH q hU n 0 N (by omega) (by omega)⟩⟩
  | succ y ih =>
    intro x N U hx hN hU
    have hxr : x < r := by omega
    -- what goes on behind this request
    have nxt : ∀ (N' : Nat) (U' : Int32), N' ≤ N + 6 → US U' (fun j => ∃ i, i < x + 1 ∧ bz (m 10 i) ∧ m 11 i = nI j) → wL_holds_206 S0 Q (wL_holds_5 S0 Q (y + 1)) U' (nI x) f1 f2 N' k := by
      intro N' U' hN' hU'
      refine ⟨by omega, ?_⟩
      rw [nI_1]
      exact ih (x + 1) N' U' (by omega) (by omega) hU'
    have keep : ¬ bz (m 10 x) → US U (fun j => ∃ i, i < x + 1 ∧ bz (m 10 i) ∧ m 11 i = nI j) := by
      intro hb
      refine us_cg hU (fun j _ => ⟨fun ⟨i, h1, h2⟩ => ⟨i, by omega, h2⟩, fun ⟨i, h1, h2, h3⟩ => ⟨i, ?_, h2, h3⟩⟩)
      by_cases e : i = x
      · exact absurd (e ▸ h2) hb
      · omega
    unfold wL_holds_5
    rw [c40, c41]
    refine ⟨by omega, by unfold vp_in; decide, bn (by rw [q_le (by omega) (by omega)]; omega) ⟨by omega, ob_state h hxr ⟨by omega, ob_copyOf h hxr ?_⟩⟩⟩
    rcases hJ.1.1 x hxr with ⟨e5, e11⟩ | ⟨j, hj, e11, e08, e19, hrk⟩
    · have hd : du m x = -4 := by
        unfold du
        rw [if_neg (by rw [e5]; decide)]
      rw [e5, e11]
      refine bn (by decide) (bn (by decide) (bn (by decide) (bi rfl ⟨by unfold vp_in; decide, bn ?_ ⟨by omega, ob_due h hxr ?_⟩⟩)))
      · intro e
        rw [Int32.le_iff_toInt_le, q_ti (by omega)] at e
        have : (-1 : Int32).toInt = -1 := by decide
        omega
      · rw [hd]
        refine bi rfl (bn (by decide) ⟨by omega, bi (by decide) ⟨by omega, bn (by decide) (bi (by decide) (nxt _ U (by omega) (keep (by rw [e5]; exact bz_5))))⟩⟩)
    · have hJn : vp_in (nI j) 41 := q_in (by omega) (by decide)
      have hxn : vp_in (nI x) 41 := q_in (by omega) (by decide)
      have hdu : (du m x = -4 ∧ m 10 x ≠ 2) ∨ (du m x ≠ -4 ∧ m 10 x = 2) := by
        unfold du
        by_cases e2 : m 10 x = 2
        · rw [if_pos e2]
          obtain ⟨w, ew, hw⟩ := hJ.2.2.2.1 x hxr
          refine Or.inr ⟨?_, e2⟩
          rw [ew]
          intro e
          have h1 := congrArg Int32.toInt e
          rw [q_ti (by omega)] at h1
          have h2 : (-4 : Int32).toInt = -4 := by decide
          omega
        · rw [if_neg e2]
          exact Or.inl ⟨rfl, e2⟩
      -- from pc 106 on
      have l106 : ∀ N', N' ≤ N + 4 → wL_holds_106 S0 Q (wL_holds_5 S0 Q (y + 1)) U (nI x) (m 10 x) (nI j) f1 f2 N' k := by
        intro N' hN'
        unfold wL_holds_106
        rw [show (20 : Int32) = nI 20 from rfl, nI_add, nI_add, q_cl (by omega), q_cl (by omega), q_cl (by omega), q_cl (by omega), (hH.2.2.1 j hj).1, (hH.2.2.1 j hj).2, (hH.2.2.2 x hxr).1, (hH.2.2.2 x hxr).2]
        refine ⟨by omega, bn (q_nn (by omega)) ⟨hJn, hxn, bn e08 ⟨q_in (by omega) (by decide), q_in (by omega) (by decide), bi e19 ?_⟩⟩⟩
        unfold wL_holds_141
        refine ⟨by omega, ?_⟩
        have hm1 : m 0 j ≠ -1 := q_ne_m1 (by decide) (hh j hj)
        have busy : bz (m 10 x) → ∀ z, m 2 j ≠ m 0 j → (m 10 x = 1 → m 3 j = m 0 j) → (¬ m 10 x = 1 → m 3 j = m 8 x) → z = ((U >>> (nI j &&& 31)) &&& 1) → (((z = 1 → Q 0 k) ∧ (¬ z = 1 → (N' + 1 ≤ 320 ∧ (wX5_isFree S0 k (nI j) (fun r67 k68 => ((r67 = 0 → (N' + 1 + 1 ≤ 320 ∧ (wX5_inHandsOf S0 k68 (nI j) (fun r71 k72 => ((m 10 x = 1 → (vp_in (nI j) 41 ∧ ((r71 = (f1 ((nI j).toNatClampNeg)) → (wL_holds_206 S0 Q (wL_holds_5 S0 Q (y + 1)) (U ||| (1 <<< (nI j &&& 31))) (nI x) f1 f2 (N' + 1 + 1) k72)) ∧ (¬ r71 = (f1 ((nI j).toNatClampNeg)) → Q 0 k72)))) ∧ (¬ m 10 x = 1 → (vp_in (nI x) 41 ∧ ((r71 = (f2 ((nI x).toNatClampNeg)) → (wL_holds_206 S0 Q (wL_holds_5 S0 Q (y + 1)) (U ||| (1 <<< (nI j &&& 31))) (nI x) f1 f2 (N' + 1 + 1) k72)) ∧ (¬ r71 = (f2 ((nI x).toNatClampNeg)) → Q 0 k72)))))) (fun _ _ => False)))) ∧ (¬ r67 = 0 → Q 0 k68))) (fun _ _ => False)))))) := by
          intro hb z h2 h3a h3b hz
          have hz0 : z = 0 := by
            rw [hz]
            refine (hU j (by omega)).2 (fun ⟨i, hi, hbi, ei⟩ => ?_)
            have := hJ.1.2.1 i x (by omega) hxr hbi hb (ei.trans e11.symm)
            omega
          have hfr : fr m j = 0 := by
            unfold fr
            rw [if_neg (fun e => h2 e.1)]
          have hU' : US (U ||| (1 <<< (nI j &&& 31))) (fun j' => ∃ i, i < x + 1 ∧ bz (m 10 i) ∧ m 11 i = nI j') := by
            refine us_cg (us_or hU (b := j) (by omega)) (fun j' hj' => ⟨fun e => ?_, fun ⟨i, h1, h2, h3⟩ => ?_⟩)
            · rcases e with ⟨i, h1, h2⟩ | e
              · exact ⟨i, by omega, h2⟩
              · exact ⟨x, by omega, hb, by rw [e]; exact e11⟩
            · by_cases e : i = x
              · rw [e, e11] at h3
                exact Or.inr (q_inj (by omega) (by omega) h3).symm
              · exact Or.inl ⟨i, by omega, h2, h3⟩
          rw [hz0]
          refine bn (by decide) ⟨by omega, ob_free h hj ?_⟩
          rw [hfr]
          refine b0 ⟨by omega, ob_hands h hj ⟨fun e => ⟨hJn, bi ?_ (nxt _ _ (by omega) hU')⟩, fun e => ⟨hxn, bi ?_ (nxt _ _ (by omega) hU')⟩⟩⟩
          · rw [q_cl (by omega), (hH.2.2.1 j hj).1]
            exact h3a e
          · rw [q_cl (by omega), (hH.2.2.2 x hxr).1]
            exact h3b e
        rcases hrk with e | e | ⟨e, e3, e2⟩ | ⟨e, e3, e2⟩ | ⟨e, e3, e2⟩
        · refine bi (by rw [e]; decide) (nxt _ U (by omega) (keep (by rw [e]; exact bz_0)))
        · refine bn (by rw [e]; decide) (bi (by rw [e]; decide) (nxt _ U (by omega) (keep (by rw [e]; exact bz_4))))
        · exact bn (by rw [e]; decide) (bn (by rw [e]; decide) (busy (Or.inl e) _ (by rw [e2]; exact fun e => hm1 e.symm) (fun _ => e3) (fun e9 => absurd e e9) rfl))
        · exact bn (by rw [e]; decide) (bn (by rw [e]; decide) (busy (Or.inr (Or.inl e)) _ (by rw [e2]; exact fun e => e08 e.symm) (fun e9 => absurd (e.symm.trans e9) (by decide)) (fun _ => e3) rfl))
        · exact bn (by rw [e]; decide) (bn (by rw [e]; decide) (busy (Or.inr (Or.inr e)) _ (by rw [e2]; exact fun e => hm1 e.symm) (fun e9 => absurd (e.symm.trans e9) (by decide)) (fun _ => e3) rfl))
      have hst : ∃ s : Nat, s < 5 ∧ m 10 x = nI s := by
        rcases hrk with e | e | ⟨e, -⟩ | ⟨e, -⟩ | ⟨e, -⟩
        · exact ⟨0, by omega, e⟩
        · exact ⟨4, by omega, e⟩
        · exact ⟨1, by omega, e⟩
        · exact ⟨2, by omega, e⟩
        · exact ⟨3, by omega, e⟩
      obtain ⟨s, hs, es⟩ := hst
      have g0 : ¬ m 10 x < 0 := by rw [es]; exact q_nn (by omega)
      have g5 : ¬ (5 : Int32) < m 10 x := by rw [es, show (5 : Int32) = nI 5 from rfl, q_lt (by omega) (by omega)]; omega
      have n5 : ¬ m 10 x = 5 := fun e => by
        rw [es] at e
        have := q_inj (show s < 1000000000 by omega) (by omega) (show nI s = nI 5 from e)
        omega
      rw [e11]
      refine bn g0 (bn g5 (bi (q_ge0 (by omega)) (bn n5 ⟨by unfold vp_in; decide, bn (by rw [q_le (by omega) (by omega)]; omega) ⟨by omega, ob_due h hxr ?_⟩⟩)))
      rcases hdu with ⟨e4, e2⟩ | ⟨e4, e2⟩
      · exact bi e4 (bn e2 (l106 _ (by omega)))
      · exact bn e4 (bi e2 (l106 _ (by omega)))
theorem holds_ok (h : Ob k m n r d) (hJ : J m n r c 0 u) (hn : n ≤ 20) (hr : r ≤ 20) (hc : c ≤ 600) (hh : ∀ j, j < n → ∃ h, h < 6 ∧ m 0 j = nI h) (hH : HQ m n r f1 f2) (q : Q 1 k) : wL_holds S0 k f1 f2 Q :=
  ⟨r + 1, holds_l5 h hJ hn hr hc hh hH q r 0 0 0 (by omega) (by omega) (us_cg us_0 (fun j _ => ⟨fun h => h.elim, fun ⟨i, hi, _⟩ => absurd hi (by omega)⟩))⟩
end HO
