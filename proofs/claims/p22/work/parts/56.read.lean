/-! the law's own looking: numbers, 'same', 'goesOn', 'first', 'holds' -/
theorem nI_dv {z N : Nat} (hz : z < 2147483648) (hN : 1 < N) (hN2 : N < 2147483648) : nI z / nI N = nI (z / N) := by
  apply Int32.toInt_inj.mp
  have hq : z / N ≤ z := Nat.div_le_self z N
  rw [Int32.toInt_div_of_ne_right _ _ (fun e => by
    have h1 := congrArg Int32.toInt e
    rw [nI_toInt (by omega)] at h1
    have h2 : (-1 : Int32).toInt = -1 := by decide
    omega), nI_toInt (by omega), nI_toInt (by omega), nI_toInt (by omega)]
  exact (Int.ofNat_tdiv z N).symm
theorem nI_ml (a b : Nat) : nI a * nI b = nI (a * b) := (Int32.ofNat_mul a b).symm
theorem nI_sb {a b : Nat} (h : b ≤ a) : nI a - nI b = nI (a - b) := by
  have h1 : nI (a - b) + nI b = nI a := by rw [nI_add]; congr 1; omega
  rw [← h1, Int32.add_sub_cancel]
theorem nI_md {z N : Nat} (hz : z < 2147483648) (hN : 1 < N) (hN2 : N < 2147483648) : nI z - nI z / nI N * nI N = nI (z % N) := by
  rw [nI_dv hz hN hN2, nI_ml, nI_sb (by
    have := Nat.div_mul_le_self z N
    exact this)]
  congr 1
  have := Nat.div_add_mod z N
  rw [Nat.mul_comm] at this
  omega
theorem lw_rng (v : Int32) {N : Nat} (hN : 1 < N) (hN2 : N < 1000) : ∃ w, w < N ∧ (v &&& 2147483647) - (v &&& 2147483647) / nI N * nI N = nI w := by
  obtain ⟨j, hj, e⟩ : ∃ j : Nat, j < 2147483648 ∧ v &&& 2147483647 = nI j := by
    apply nI_of
    have hm : (v &&& 2147483647).toBitVec.msb = false := by
      rw [Int32.toBitVec_and, BitVec.msb_and]
      have : (2147483647 : Int32).toBitVec.msb = false := by decide
      rw [this, Bool.and_false]
    intro hlt
    rw [Int32.lt_iff_toInt_lt] at hlt
    have h0 : (0 : Int32).toInt = 0 := rfl
    have h1 : (v &&& 2147483647).toInt = ((v &&& 2147483647).toBitVec.toNat : Int) := BitVec.toInt_eq_toNat_of_msb hm
    omega
  rw [e, nI_md hj hN (by omega)]
  exact ⟨j % N, Nat.mod_lt _ (by omega), rfl⟩
section LK
variable {S0 : Nat} {k : kS} {m : mS} {n r d : Nat} {Q : Int32 → kS → Prop}
theorem low_ok (v : Int32) {N : Nat} (hN : 1 < N) (hN2 : N < 1000) (q : ∀ w, w < N → (v &&& 2147483647) - (v &&& 2147483647) / nI N * nI N = nI w → Q (nI w) k) : wL_low S0 k v (nI N) Q := by
  obtain ⟨w, hw, e⟩ := lw_rng v hN hN2
  refine ⟨nI_ne0 (by omega) (by omega), ?_⟩
  rw [e]
  exact q w hw e
theorem cell_ok {L : Nat} {xs : Nat → Int32} {i : Nat} (hL : L ≤ 260) (hi : i < 1000) (q : ∀ v, Q v k) : wL_cell S0 k L xs (nI i) Q := by
  refine ⟨fun _ => q _, fun h => ⟨?_, q _⟩⟩
  rw [show (Int32.ofNat L) = nI L from rfl, q_le (by omega) (by omega)] at h
  exact q_in (by omega) (by omega)
theorem same_ok {f : Nat → Int32} (q : Q 1 k) : wL_same S0 k f f Q := by
  have loop : ∀ y x, x + y = 64 → wL_same_2 S0 Q (y + 1) (nI x) f f k := by
    intro y
    induction y with
    | zero =>
      intro x hx
      obtain rfl : x = 64 := by omega
      unfold wL_same_2
      exact bi (by decide) q
    | succ y ih =>
      intro x hx
      unfold wL_same_2
      refine bn (by rw [show (64 : Int32) = nI 64 from rfl, q_le (by omega) (by omega)]; omega) ⟨q_in (by omega) (by decide), q_in (by omega) (by decide), bi rfl ?_⟩
      rw [nI_1]
      exact ih (x + 1) (by omega)
  exact ⟨65, loop 64 0 rfl⟩
/-- the stage out of a told row -/
theorem tell_st {c u lo : Nat} (hJ : J m n r c lo u) (hn : n ≤ 20) (hc : c ≤ 600) {i : Nat} (hi : i < r) {s : Nat} (hs : s ≤ 5) (e : m 10 i = nI s) : ((1000000 * m 10 i + 10000 * m 11 i + du m i) + 20000) / 1000000 = nI s := by
  have k6 : (1000000 : Int32) = nI 1000000 := rfl
  have k4 : (10000 : Int32) = nI 10000 := rfl
  have k2 : (20000 : Int32) = nI 20000 := rfl
  have hdu : ∃ x : Nat, x ≤ 100000 ∧ du m i + 20000 = nI x := by
    unfold du
    split
    · obtain ⟨w, ew, hw⟩ := hJ.2.2.2.1 i hi
      rw [ew, k2, nI_add]
      exact ⟨_, by omega, rfl⟩
    · exact ⟨19996, by omega, by decide⟩
  obtain ⟨x, hx, ex⟩ := hdu
  rw [Int32.add_assoc, ex, e]
  rcases hJ.1.1 i hi with ⟨e5, e11⟩ | ⟨j, hj, e11, -⟩
  · rw [e5] at e
    have : s = 5 := (q_inj (show 5 < 1000000000 by omega) (by omega) (show nI 5 = nI s from e)).symm
    subst this
    have hx2 : x = 19996 := by
      unfold du at ex
      rw [if_neg (by rw [e5]; decide)] at ex
      exact (q_inj (a := 19996) (by omega) (by omega) ((show nI 19996 = -4 + 20000 by decide).trans ex)).symm
    rw [e11, hx2]
    decide
  · rw [e11, k6, k4, nI_ml, nI_ml, nI_add, nI_add, nI_dv (by omega) (by omega) (by omega)]
    congr 1
    omega
theorem goes_ok {m1 : mS} {c u c1 u1 : Nat} {g : Int32} (hJ : J m n r c 0 u) (hJ1 : J m1 n r c1 0 u1) (hn : n ≤ 20) (hr : r ≤ 20) (hc : c ≤ 600) (hc1 : c1 ≤ 600) (hG : GO r (m 10) (m1 10)) (hg : g = nI r) (q : Q 1 k) : wL_goesOn S0 k (TELL m n r) (TELL m1 n r) g Q := by
  subst hg
  have loop : ∀ y x, x + y = r → wL_goesOn_2 S0 Q (y + 1) (nI r) (nI x) (TELL m n r) (TELL m1 n r) k := by
    intro y
    induction y with
    | zero =>
      intro x hx
      obtain rfl : x = r := by omega
      unfold wL_goesOn_2
      exact bi (by rw [q_le (by omega) (by omega)]; omega) q
    | succ y ih =>
      intro x hx
      have hxr : x < r := by omega
      unfold wL_goesOn_2
      obtain ⟨s, s1, hs, hs1, e, e1, hle, h5⟩ := hG x hxr
      have t := tell_st hJ hn hc hxr hs e
      have t1 := tell_st hJ1 hn hc1 hxr hs1 e1
      rw [← TELL_B m (n := n) hxr] at t
      rw [← TELL_B m1 (n := n) hxr] at t1
      rw [show (10 : Int32) = nI 10 from rfl, nI_add, q_cl (by omega), t, t1, nI_1]
      have hih := ih (x + 1) (by omega)
      refine bn (by rw [q_le (by omega) (by omega)]; omega) ⟨q_in (by omega) (by decide), q_in (by omega) (by decide), bn (by rw [q_lt (by omega) (by omega)]; omega) ?_⟩
      refine ⟨fun e5 => ?_, fun _ => hih⟩
      have e5' : s1 = 5 := q_inj (by omega) (by omega) (show nI s1 = nI 5 from e5)
      refine ⟨fun _ => hih, fun hn0 => ⟨fun _ => hih, fun h5n => ?_⟩⟩
      rcases h5 e5' with e0 | e0
      · rw [e0] at hn0; exact absurd (by decide) hn0
      · rw [e0] at h5n; exact absurd (by decide) h5n
  exact ⟨r + 1, loop r 0 (by omega)⟩
end LK
/-- the law's rows of homes and titles, houses and wishes -/
def HQ (m : mS) (n r : Nat) (f1 f2 : Nat → Int32) : Prop := f1 40 = nI n ∧ f2 40 = nI r ∧ (∀ j, j < n → f1 j = m 0 j ∧ f1 (20 + j) = m 1 j) ∧ (∀ i, i < r → f2 i = m 8 i ∧ f2 (20 + i) = m 9 i)
