/-! PURE: debts -/
theorem q_add {x y : Int32} (h1 : -2147483648 ≤ x.toInt + y.toInt) (h2 : x.toInt + y.toInt < 2147483648) : (x + y).toInt = x.toInt + y.toInt := by
  rw [Int32.toInt_add]
  exact Int.bmod_eq_of_le (by omega) (by omega)
theorem q_sub {x y : Int32} (h1 : -2147483648 ≤ x.toInt - y.toInt) (h2 : x.toInt - y.toInt < 2147483648) : (x - y).toInt = x.toInt - y.toInt := by
  rw [Int32.toInt_sub]
  exact Int.bmod_eq_of_le (by omega) (by omega)
def owed (m : mS) (a b : Nat) (s : Int32) : mS := mset (mset m 20 (6 * a + b) (m 20 (6 * a + b) + s)) 20 (6 * b + a) (mset m 20 (6 * a + b) (m 20 (6 * a + b) + s) 20 (6 * b + a) - s)
def chg (k : kS) (a b : Nat) (s : Int32) : kS := kset k 4 (a * 6 + b) (k.1 4 (a * 6 + b) + s)
theorem sm_owe {m : mS} {a b : Nat} {s : Int32} {Q : mS → Prop} (ha : a < 6) (hb : b < 6) (q : Q (owed m a b s)) : wX6_owe m (nI a) (nI b) s Q := by
  unfold wX6_owe
  rw [ix6 a ha b hb, ix6 b hb a ha]
  rw [q_cl (by omega), q_cl (by omega)]
  refine ⟨q_in (by omega) (by decide), q_in (by omega) (by decide), ?_⟩
  rintro m1 rfl
  refine ⟨q_in (by omega) (by decide), q_in (by omega) (by decide), ?_⟩
  rintro m2 rfl
  exact q
theorem sx_charge {S0 a b : Nat} {k : kS} {s : Int32} {Q : kS → Prop} (ha : a < 6) (hb : b < 6) (q : Q (chg k a b s)) : wX0_charge S0 k (nI a) (nI b) s Q := by
  refine sx_house_y ha (b1 (sx_house_y hb (b1 ?_)))
  rw [ix6' a ha b hb]
  refine ⟨q_in (by omega) (by decide), q_in (by omega) (by decide), ?_⟩
  rw [q_cl (by omega)]
  rintro k1 rfl
  exact q
theorem chg_4 (k : kS) (a b : Nat) (s : Int32) (j : Nat) : (chg k a b s).1 4 j = if j = a * 6 + b then k.1 4 j + s else k.1 4 j := by
  show upd (k.1 4) (a * 6 + b) (k.1 4 (a * 6 + b) + s) j = _
  by_cases h : j = a * 6 + b
  · rw [if_pos h, h, upd_s]
  · rw [if_neg h, upd_n _ _ h]
theorem owed_20 (m : mS) {a b : Nat} (s : Int32) (j : Nat) : owed m a b s 20 j = if j = 6 * b + a then (if j = 6 * a + b then m 20 j else m 20 j - s) else (if j = 6 * a + b then m 20 j + s else m 20 j) := by
  show upd (mset m 20 (6 * a + b) (m 20 (6 * a + b) + s) 20) (6 * b + a) (mset m 20 (6 * a + b) (m 20 (6 * a + b) + s) 20 (6 * b + a) - s) j = _
  have hin : ∀ i, mset m 20 (6 * a + b) (m 20 (6 * a + b) + s) 20 i = if i = 6 * a + b then m 20 i + s else m 20 i := by
    intro i
    show upd (m 20) (6 * a + b) (m 20 (6 * a + b) + s) i = _
    by_cases h : i = 6 * a + b
    · rw [if_pos h, h, upd_s]
    · rw [if_neg h, upd_n _ _ h]
  by_cases h : j = 6 * b + a
  · rw [if_pos h, h, upd_s, hin]
    by_cases h2 : 6 * b + a = 6 * a + b
    · rw [if_pos h2, if_pos h2]; grind
    · rw [if_neg h2, if_neg h2]
  · rw [if_neg h, upd_n _ _ h, hin]
theorem pA_charge {k : kS} {m : mS} {n E a b : Nat} {s : Int32} {S : Nat} (h : pA k m n E) (ha : a < 6) (hb : b < 6) (h0 : 0 ≤ s.toInt) (hs : s.toInt ≤ S) (hE : E + S < 2147483648) : pA (chg k a b s) (owed m a b s) n (E + S) := by
  refine ⟨fun x y hx hy => ?_, fun j hj => ?_, h.2.2⟩
  · rw [chg_4, chg_4, owed_20, ← h.1 x y hx hy]
    by_cases e1 : x = a ∧ y = b
    · obtain ⟨rfl, rfl⟩ := e1
      by_cases e2 : x = y
      · subst e2
        rw [if_pos rfl, if_pos rfl, if_pos rfl]; grind
      · rw [if_pos rfl, if_neg (by omega), if_neg (by omega), if_pos rfl]; grind
    · by_cases e2 : x = b ∧ y = a
      · obtain ⟨rfl, rfl⟩ := e2
        rw [if_neg (by omega), if_pos rfl, if_pos rfl, if_neg (by omega)]; grind
      · rw [if_neg (by omega), if_neg (by omega), if_neg (by omega), if_neg (by omega)]
  · have hj2 := h.2.1 j hj
    rw [owed_20]
    by_cases e1 : j = 6 * b + a
    · by_cases e2 : j = 6 * a + b
      · rw [if_pos e1, if_pos e2]; omega
      · rw [if_pos e1, if_neg e2, q_sub (by omega) (by omega)]; omega
    · by_cases e2 : j = 6 * a + b
      · rw [if_neg e1, if_pos e2, q_add (by omega) (by omega)]; omega
      · rw [if_neg e1, if_neg e2]; omega
def i2n (x : Int32) : Nat := x.toNatClampNeg
def mFind (m : mS) (i : Nat) : mS := if m 5 i = -1 then m else if m 6 i = 1 then m else if m 5 i = m 0 i then mset m 6 i 1 else owed (mset m 6 i 1) (i2n (m 5 i)) (i2n (m 0 i)) 30
/-- both find harm: what stays -/
def Found (k k1 : kS) (m m1 : mS) (i c : Nat) : Prop := (∀ a, a ≠ 17 → a ≠ 4 → k1.1 a = k.1 a) ∧ k1.2 = k.2 ∧ (∀ a, a ≠ 6 → a ≠ 20 → m1 a = m a) ∧ (∀ j, j ≠ i → m1 6 j = m 6 j) ∧ (∀ j, j ≠ c → k1.1 17 j = k.1 17 j) ∧ k1.1 17 c = m1 6 i ∧ (m1 6 i = 0 ∨ m1 6 i = 1)
theorem find_both {S0 : Nat} {k : kS} {m : mS} {n E : Nat} {ca : Nat → Nat} (hC : pC k m n ca) (hn : n ≤ 20) (hA : pA k m n E) (hE : E + 30 < 2147483648) {i : Nat} (hi : i < n) :
    ∃ (v : Int32) (k1 : kS) (m1 : mS), m1 = mFind m i ∧ Found k k1 m m1 i (ca i) ∧ pA k1 m1 n (E + 30) ∧ (∀ Q2 : Int32 → mS → Prop, Q2 v m1 → wX6_find m (nI i) Q2) ∧ (∀ Q : Int32 → kS → Prop, Q v k1 → wX5_examine S0 k (ca i) Q) := by
  obtain ⟨a1, a2, a3⟩ := hC.1 i hi
  have hin : vp_in (nI i) 20 := q_in (by omega) (by decide)
  have h11 : k.1 11 (ca i) = m 0 i := a3.2.1
  have h16 : k.1 16 (ca i) = m 5 i := a3.2.2.2.2.2.1
  have h17 : k.1 17 (ca i) = m 6 i := a3.2.2.2.2.2.2.1
  have hg5 : m 5 i = -1 ∨ ∃ h, h < 6 ∧ m 5 i = nI h := a3.2.2.2.2.2.2.2.2.2.2.1
  have hg0 : ∃ h, h < 6 ∧ m 0 i = nI h := a3.2.2.2.2.2.2.2.2.1
  have hg6 : m 6 i = 0 ∨ m 6 i = 1 := a3.2.2.2.2.2.2.2.2.2.2.2
  have f0 : Found k k m m i (ca i) := ⟨fun _ _ _ => rfl, rfl, fun _ _ _ => rfl, fun _ _ => rfl, fun _ _ => rfl, h17, hg6⟩
  rcases hg5 with hg5 | ⟨z, hz, hg5⟩
  · refine ⟨-1, k, m, by unfold mFind; rw [if_pos hg5], f0, pA_mono hA (by omega), fun Q2 q => ⟨hin, ?_⟩, fun Q q => ?_⟩
    · rw [q_cl (by omega), hg5]
      exact bi (by decide) q
    · exact bi (by rw [h16, hg5]) (b0 q)
  · have hnn : ¬ m 5 i < 0 := by rw [hg5]; exact q_nn (by omega)
    have hn1 : ¬ k.1 16 (ca i) = -1 := by rw [h16, hg5]; exact q_m1 (by omega)
    rcases hg6 with hg6 | hg6
    · obtain ⟨y, hy, hg0⟩ := hg0
      have u17 : (kset k 17 (ca i) 1).1 17 (ca i) = 1 := upd_s _ _ _
      have u6 : mset m 6 i 1 6 i = 1 := upd_s _ _ _
      by_cases hzy : m 5 i = m 0 i
      · refine ⟨m 5 i, kset k 17 (ca i) 1, mset m 6 i 1, by unfold mFind; rw [if_neg (by rw [hg5]; exact q_m1 (by omega)), if_neg (by rw [hg6]; decide), if_pos hzy], ⟨fun a h1 h2 => ks_c _ _ _ _ h1, rfl, fun a h1 h2 => ms_c _ _ _ _ h1, fun j hj => ms_n _ _ _ _ hj, fun j hj => ks_n _ _ _ _ hj, u17.trans u6.symm, Or.inr u6⟩, pA_mono (k := k) (m := m) hA (by omega), fun Q2 q => ⟨hin, ?_⟩, fun Q q => ?_⟩
        · rw [q_cl (by omega)]
          refine bn hnn ⟨hin, bn (by rw [hg6]; decide) ⟨hin, ?_⟩⟩
          rintro m1 rfl
          exact ⟨hin, hin, bi hzy ⟨hin, q⟩⟩
        · refine bn hn1 (b1 (bi (h17.trans hg6) ?_))
          rintro k1 rfl
          refine bi (h16.trans (hzy.trans h11.symm)) ?_
          show Q (k.1 16 (ca i)) _
          rw [h16]; exact q
      · refine ⟨m 5 i, chg (kset k 17 (ca i) 1) z y 30, owed (mset m 6 i 1) z y 30, by unfold mFind; rw [if_neg (by rw [hg5]; exact q_m1 (by omega)), if_neg (by rw [hg6]; decide), if_neg hzy, hg5, hg0]; unfold i2n; rw [q_cl (by omega), q_cl (by omega)], ⟨fun a h1 h2 => (ks_c _ _ _ _ h2).trans (ks_c _ _ _ _ h1), rfl, fun a h1 h2 => (ms_c _ _ _ _ h2).trans ((ms_c _ _ _ _ h2).trans (ms_c _ _ _ _ h1)), fun j hj => ms_n m 6 i 1 (b := 6) hj, fun j hj => ks_n k 17 (ca i) 1 (b := 17) hj, u17.trans u6.symm, Or.inr u6⟩, ?_, fun Q2 q => ⟨hin, ?_⟩, fun Q q => ?_⟩
        · exact pA_charge (k := kset k 17 (ca i) 1) (m := mset m 6 i 1) hA hz hy (by decide) (by decide) hE
        · rw [q_cl (by omega)]
          refine bn hnn ⟨hin, bn (by rw [hg6]; decide) ⟨hin, ?_⟩⟩
          rintro m1 rfl
          refine ⟨hin, hin, bn hzy ⟨hin, hin, ?_⟩⟩
          rw [show mset m 6 i 1 5 i = nI z from hg5, show mset m 6 i 1 0 i = nI y from hg0]
          exact sm_owe hz hy ⟨hin, q⟩
        · refine bn hn1 (b1 (bi (h17.trans hg6) ?_))
          rintro k1 rfl
          refine bn (fun e => hzy (h16.symm.trans (Eq.trans e h11))) ?_
          rw [show (kset k 17 (ca i) 1).1 16 (ca i) = nI z from h16.trans hg5, show (kset k 17 (ca i) 1).1 11 (ca i) = nI y from h11.trans hg0]
          refine sx_charge hz hy ?_
          show Q (k.1 16 (ca i)) _
          rw [h16]; exact q
    · refine ⟨-1, k, m, by unfold mFind; rw [if_neg (by rw [hg5]; exact q_m1 (by omega)), if_pos hg6], f0, pA_mono hA (by omega), fun Q2 q => ⟨hin, ?_⟩, fun Q q => ?_⟩
      · rw [q_cl (by omega)]
        exact bn hnn ⟨hin, bi hg6 q⟩
      · exact bn hn1 (b1 (bn (by rw [h17, hg6]; decide) q))
/-- the relation's core behind a find -/
theorem core_found {k k1 : kS} {m m1 : mS} {n r d : Nat} {ca ra : Nat → Nat} {A QC : List Nat} {U E E1 i : Nat} (h : Core k m n r d ca ra A QC U E) (hf : Found k k1 m m1 i (ca i)) (hi : i < n) (hA : pA k1 m1 n E1) : Core k1 m1 n r d ca ra A QC U E1 := by
  obtain ⟨h1, h2, h3, h4, h5, h6, h7, h8⟩ := h
  obtain ⟨f1, f2, f3, f4, f5, f6, f7⟩ := hf
  have e1 : k1.1 = fun a => if a = 17 then k1.1 17 else if a = 4 then k1.1 4 else k.1 a := by
    funext a
    by_cases x1 : a = 17
    · rw [if_pos x1, x1]
    · rw [if_neg x1]
      by_cases x2 : a = 4
      · rw [if_pos x2, x2]
      · rw [if_neg x2]; exact f1 a x1 x2
  have e2 : m1 = fun a => if a = 6 then m1 6 else if a = 20 then m1 20 else m a := by
    funext a
    by_cases x1 : a = 6
    · rw [if_pos x1, x1]
    · rw [if_neg x1]
      by_cases x2 : a = 20
      · rw [if_pos x2, x2]
      · rw [if_neg x2]; exact f3 a x1 x2
  have e3 : k1 = (fun a => if a = 17 then k1.1 17 else if a = 4 then k1.1 4 else k.1 a, k.2) := by rw [← e1, ← f2]
  have hC : pC k1 m1 n ca := by
    refine pC_step h4 h1.2.2 hi (by rw [f2]) (by rw [f2]) (fun a h1 h2 q hq => ?_) (fun a ha j hj => ?_) ?_
    · by_cases x : a = 17
      · rw [x]; exact f5 q hq
      · exact congrFun (f1 a x (by omega)) q
    · by_cases x : a = 6
      · rw [x]; exact f4 j hj
      · exact congrFun (f3 a x (by omega)) j
    · obtain ⟨w1, w2, w3, w4, w5, w6, w7, w8, w9, w10, w11, w12⟩ := (h4.1 i hi).2.2
      have g : ∀ a, a ≠ 17 → a ≠ 4 → k1.1 a (ca i) = k.1 a (ca i) := fun a x1 x2 => congrFun (f1 a x1 x2) _
      have g' : ∀ a, a ≠ 6 → a ≠ 20 → m1 a i = m a i := fun a x1 x2 => congrFun (f3 a x1 x2) _
      simp only at w1 w2 w3 w4 w5 w6 w8 w9 w10 w11
      unfold cRow
      simp only
      rw [g 10 (by decide) (by decide), g 11 (by decide) (by decide), g 12 (by decide) (by decide), g 13 (by decide) (by decide), g 14 (by decide) (by decide), g 15 (by decide) (by decide), g 16 (by decide) (by decide), g' 0 (by decide) (by decide), g' 1 (by decide) (by decide), g' 2 (by decide) (by decide), g' 3 (by decide) (by decide), g' 4 (by decide) (by decide), g' 5 (by decide) (by decide)]
      exact ⟨w1, w2, w3, w4, w5, w6, f6, w8, w9, w10, w11, f7⟩
  refine ⟨?_, ?_, ?_, hC, ?_, hA, ?_, ?_⟩
  · rw [e2, e3]; exact h1
  · rw [e2, e3]; exact h2
  · rw [e2, e3]; exact h3
  · rw [e2, e3]; exact h5
  · rw [e3]; exact h7
  · rw [e2, e3]; exact h8
theorem EB_lt {c t d : Nat} (hc : c ≤ 512) (hd : d ≤ 100 * c) (ht : t ≤ 552 * d) : EB c t ≤ 1100000000 := by unfold EB; omega
theorem op_look {S0 c : Nat} {k : kS} {m : mS} (p : Int32) (hc : c < 512) (h : Rel c k m) : OpI (Rel (c + 1)) "java/lang/IndexOutOfBoundsException" (wX6_look m p) (wX5_look S0 k p) := by
  have h' := h
  obtain ⟨n, r, d, t, ca, ra, A, QC, hCore, hS, hL1, hL2, hL3, hL4⟩ := h'
  have hCore' := hCore
  obtain ⟨⟨c1, c2, c3⟩, -, -, hC, hR, hA, -⟩ := hCore'
  rcases q_rng p n (by omega) with ⟨i, hi, rfl⟩ | ⟨hp, -⟩
  · obtain ⟨a1, a2, a3⟩ := hC.1 i hi
    have hin : vp_in (nI i) 20 := q_in (by omega) (by decide)
    have h2 : (k.1 14 (ca i) = 0 ∧ m 2 i = m 3 i) ∨ (k.1 14 (ca i) = 1 ∧ m 2 i = -1) := a3.2.2.2.2.2.2.2.1
    have hg3 : ∃ h, h < 6 ∧ m 3 i = nI h := a3.2.2.2.2.2.2.2.2.2.1
    rcases h2 with ⟨b14, b2⟩ | ⟨b14, b2⟩
    · have hEl := EB_lt (c := c) (t := t) (d := d) (by omega) hL2 hL3
      obtain ⟨v, k1, m1, -, hF, hA1, f6, f5⟩ := find_both (S0 := S0) (m := mset m 23 0 0) (k := k) hC c3 hA (by omega) hi
      refine ⟨v, m1, fun Q2 hq => ?_, Or.inl ⟨?_, fun Q QX hq => ?_⟩⟩
      · refine sm_copy_y c1 c3 hi (b1 ⟨hin, ?_⟩)
        obtain ⟨z, hz, hg3⟩ := hg3
        rw [q_cl (by omega), b2, hg3]
        exact bi (q_ge0 (by omega)) (sm_holds0 (b0 (f6 _ hq)))
      · rw [hF.2.2.1 23 (by decide) (by decide)]; rfl
      · refine sx_copy_y (by omega) a1 (bS (bi b14 (f5 _ (hq k1 ?_))))
        have hS1 : Srt k1 A QC d A.length := by
          have e : arr k1 = arr k := by funext a; unfold arr; rw [hF.1 31 (by decide) (by decide)]
          unfold Srt
          rw [e]; exact hS
        refine ⟨n, r, d, t, ca, ra, A, QC, core_found (core_thr hCore (Nat.le_refl _) 0) hF hi (pA_mono hA1 (EB_step c t (by omega))), hS1, hL1, by omega, hL3, ?_⟩
        rw [hF.2.2.1 10 (by decide) (by decide)]
        exact Nat.le_trans hL4 (show c + Gr (m 10) r ≤ c + 1 + Gr (m 10) r by omega)
    · refine ⟨-1, mset m 23 0 2, fun Q2 hq => ?_, Or.inr (Or.inr ⟨rfl, fun Q QX hq => ?_⟩)⟩
      · refine sm_copy_y c1 c3 hi (b1 ⟨hin, ?_⟩)
        rw [q_cl (by omega), b2]
        exact bn (by decide) (sm_holds2 (b1 hq))
      · refine sx_copy_y (by omega) a1 (bS (bn (by rw [b14]; decide) ⟨by decide, hq k (rel_thr h 2)⟩))
  · refine ⟨-1, mset m 23 0 1, fun Q2 hq => ?_, Or.inr (Or.inl ⟨rfl, fun Q QX hq => ?_⟩)⟩
    · exact sm_copy_n c1 c3 hp (b0 (sm_holds1 (b1 hq)))
    · exact sx_copy_n c3 hp (fun i h1 h2 => (hC.2 i h1 h2).1) (hq k (rel_thr h 1))
