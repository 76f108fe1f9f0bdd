/-! PURE: numbers, and the leaves of both sides. Nothing of the machine from here on. -/
theorem q_cl {n : Nat} (h : n < 1000000) : (nI n).toNatClampNeg = n := nI_clamp (by omega)
theorem q_in {i N : Nat} (h : i < N) (hN : N < 1000000) : vp_in (nI i) N := vp_in_nI h (by omega)
theorem q_ti {n : Nat} (h : n < 1000000000) : (nI n).toInt = (n : Int) := nI_toInt (by omega)
theorem q_inj {a b : Nat} (ha : a < 1000000000) (hb : b < 1000000000) (h : nI a = nI b) : a = b := (nI_eq (by omega) (by omega)).mp h
theorem q_m1 {n : Nat} (h : n < 1000000000) : nI n ≠ -1 := by
  intro e
  have h1 := congrArg Int32.toInt e
  rw [q_ti h] at h1
  have h2 : (-1 : Int32).toInt = -1 := by decide
  omega
theorem q_lt {a b : Nat} (ha : a < 1000000000) (hb : b < 1000000000) : nI a < nI b ↔ a < b := nI_ltI (by omega) (by omega)
theorem q_le {a b : Nat} (ha : a < 1000000000) (hb : b < 1000000000) : nI a ≤ nI b ↔ a ≤ b := nI_leI (by omega) (by omega)
theorem q_nn {n : Nat} (h : n < 1000000000) : ¬ nI n < 0 := nI_pos (by omega)
theorem q_ge0 {n : Nat} (h : n < 1000000000) : 0 ≤ nI n := nI_pos' (by omega)
/-- an int is one of the first N numbers, or none of them -/
theorem q_rng (p : Int32) (N : Nat) (hN : N < 1000000) : (∃ j, j < N ∧ p = nI j) ∨ ((p < 0 ∨ nI N ≤ p) ∧ ∀ j, j < N → p ≠ nI j) := by
  rcases pk_ix p (n := N) (by omega) with h | h | ⟨j, h1, h2⟩
  · refine Or.inr ⟨Or.inl h, fun j hj e => ?_⟩
    rw [e] at h
    exact q_nn (by omega) h
  · refine Or.inr ⟨Or.inr h, fun j hj e => ?_⟩
    rw [e, q_le (by omega) (by omega)] at h
    omega
  · exact Or.inl ⟨j, h1, h2⟩
theorem q_sub1 {n : Nat} (h : n < 1000000) : (nI n - 1).toInt = (n : Int) - 1 := by
  cases n with
  | zero => decide
  | succ n =>
    rw [nI_pred, q_ti (by omega)]
    omega
-- the leaves of the reference
theorem sm_holds {m : mS} {p : Int32} {Q : Int32 → mS → Prop} (h0 : p ≤ 0 → Q 0 (mset m 23 0 p)) (h1 : ¬ p ≤ 0 → Q 1 (mset m 23 0 p)) : wX6_holds m p Q := by
  unfold wX6_holds
  rintro m1 rfl
  exact ⟨h0, h1⟩
theorem sm_holds0 {m : mS} {Q : Int32 → mS → Prop} (h : Q 0 (mset m 23 0 0)) : wX6_holds m 0 Q := sm_holds (fun _ => h) (fun e => absurd (by decide) e)
theorem sm_holds1 {m : mS} {Q : Int32 → mS → Prop} (h : Q 1 (mset m 23 0 1)) : wX6_holds m 1 Q := sm_holds (fun e => absurd e (by decide)) (fun _ => h)
theorem sm_holds2 {m : mS} {Q : Int32 → mS → Prop} (h : Q 1 (mset m 23 0 2)) : wX6_holds m 2 Q := sm_holds (fun e => absurd e (by decide)) (fun _ => h)
theorem sm_betw_y {m : mS} {p lo hi : Int32} {Q : Int32 → mS → Prop} (h1 : ¬ p < lo) (h2 : ¬ hi < p) (h : Q 1 m) : wX6_between m p lo hi Q := ⟨fun e => absurd e h1, fun _ => ⟨fun e => absurd e h2, fun _ => h⟩⟩
theorem sm_betw_n {m : mS} {p lo hi : Int32} {Q : Int32 → mS → Prop} (h1 : p < lo ∨ hi < p) (h : Q 0 m) : wX6_between m p lo hi Q := ⟨fun _ => h, fun e => ⟨fun _ => h, fun e2 => absurd h1 (fun h3 => h3.elim e e2)⟩⟩
theorem sm_house_y {m : mS} {h : Nat} {Q : Int32 → mS → Prop} (hh : h < 6) (q : Q 1 m) : wX6_isHouse m (nI h) Q :=
  sm_betw_y (q_nn (by omega)) (by rw [show (5 : Int32) = nI 5 from rfl, q_lt (by decide) (by omega)]; omega) q
theorem q_out {p : Int32} {N : Nat} (hN : N < 1000000) (h : p < 0 ∨ nI (N + 1) ≤ p) : p < 0 ∨ nI N < p := by
  rcases h with h | h
  · exact Or.inl h
  · refine Or.inr ?_
    rw [Int32.le_iff_toInt_le, q_ti (by omega)] at h
    rw [Int32.lt_iff_toInt_lt, q_ti (by omega)]
    omega
theorem sm_house_n {m : mS} {p : Int32} {Q : Int32 → mS → Prop} (hp : p < 0 ∨ nI 6 ≤ p) (q : Q 0 m) : wX6_isHouse m p Q := sm_betw_n (q_out (N := 5) (by decide) hp) q
theorem sm_title_y {m : mS} {h : Nat} {Q : Int32 → mS → Prop} (hh : h < 8) (q : Q 1 m) : wX6_between m (nI h) 0 7 Q :=
  sm_betw_y (q_nn (by omega)) (by rw [show (7 : Int32) = nI 7 from rfl, q_lt (by decide) (by omega)]; omega) q
theorem sm_title_n {m : mS} {p : Int32} {Q : Int32 → mS → Prop} (hp : p < 0 ∨ nI 8 ≤ p) (q : Q 0 m) : wX6_between m p 0 7 Q := sm_betw_n (q_out (N := 7) (by decide) hp) q
theorem q_below {n i : Nat} (hn : n < 1000000) (h : i < n) : ¬ (nI n - 1) < nI i := by
  rw [Int32.lt_iff_toInt_lt, q_sub1 hn, q_ti (by omega)]
  omega
theorem q_above {p : Int32} {n : Nat} (hn : n < 1000000) (h : p < 0 ∨ nI n ≤ p) : p < 0 ∨ (nI n - 1) < p := by
  rcases h with h | h
  · exact Or.inl h
  · refine Or.inr ?_
    rw [Int32.le_iff_toInt_le, q_ti (by omega)] at h
    rw [Int32.lt_iff_toInt_lt, q_sub1 hn]
    omega
theorem sm_copy_y {m : mS} {n i : Nat} {Q : Int32 → mS → Prop} (hn : m 7 0 = nI n) (h20 : n ≤ 20) (hi : i < n) (q : Q 1 m) : wX6_isCopy m (nI i) Q :=
  sm_betw_y (q_nn (by omega)) (by rw [hn]; exact q_below (by omega) hi) q
theorem sm_copy_n {m : mS} {n : Nat} {p : Int32} {Q : Int32 → mS → Prop} (hn : m 7 0 = nI n) (h20 : n ≤ 20) (hp : p < 0 ∨ nI n ≤ p) (q : Q 0 m) : wX6_isCopy m p Q :=
  sm_betw_n (by rw [hn]; exact q_above (by omega) hp) q
theorem sm_req_y {m : mS} {r i : Nat} {Q : Int32 → mS → Prop} (hn : m 15 0 = nI r) (h40 : r ≤ 40) (hi : i < r) (q : Q 1 m) : wX6_isRequest m (nI i) Q :=
  sm_betw_y (q_nn (by omega)) (by rw [hn]; exact q_below (by omega) hi) q
theorem sm_req_n {m : mS} {r : Nat} {p : Int32} {Q : Int32 → mS → Prop} (hn : m 15 0 = nI r) (h40 : r ≤ 40) (hp : p < 0 ∨ nI r ≤ p) (q : Q 0 m) : wX6_isRequest m p Q :=
  sm_betw_n (by rw [hn]; exact q_above (by omega) hp) q
-- the leaves of the class
theorem sx_house_y {S0 : Nat} {k : kS} {h : Nat} {Q : Int32 → kS → Prop} (hh : h < 6) (q : Q 1 k) : wX5_isHouse S0 k (nI h) Q :=
  ⟨fun e => absurd e (q_nn (by omega)), fun _ => ⟨fun e => absurd e (by rw [show (6 : Int32) = nI 6 from rfl, q_le (by decide) (by omega)]; omega), fun _ => q⟩⟩
theorem sx_house_n {S0 : Nat} {k : kS} {p : Int32} {Q : Int32 → kS → Prop} (hp : p < 0 ∨ nI 6 ≤ p) (q : Q 0 k) : wX5_isHouse S0 k p Q :=
  ⟨fun _ => q, fun e => ⟨fun _ => q, fun e2 => absurd hp (fun h3 => h3.elim e e2)⟩⟩
theorem sx_title_y {S0 : Nat} {k : kS} {h : Nat} {Q : Int32 → kS → Prop} (hh : h < 8) (q : Q 1 k) : wX5_isTitle S0 k (nI h) Q :=
  ⟨fun e => absurd e (q_nn (by omega)), fun _ => ⟨fun e => absurd e (by rw [show (8 : Int32) = nI 8 from rfl, q_le (by decide) (by omega)]; omega), fun _ => q⟩⟩
theorem sx_title_n {S0 : Nat} {k : kS} {p : Int32} {Q : Int32 → kS → Prop} (hp : p < 0 ∨ nI 8 ≤ p) (q : Q 0 k) : wX5_isTitle S0 k p Q :=
  ⟨fun _ => q, fun e => ⟨fun _ => q, fun e2 => absurd hp (fun h3 => h3.elim e e2)⟩⟩
theorem sx_copy_y {S0 : Nat} {k : kS} {i c : Nat} {Q : Option Nat → kS → Prop} {QX : String → kS → Prop} (hi : i < 20) (hc : k.2.1 0 i = some c) (q : Q (some c) k) : wX5_copyNumbered S0 k (nI i) Q QX := by
  unfold wX5_copyNumbered
  refine ⟨fun e => absurd e (q_nn (by omega)), fun _ => ⟨fun e => absurd e (by rw [show (20 : Int32) = nI 20 from rfl, q_le (by decide) (by omega)]; omega), fun _ => ⟨q_in hi (by decide), ?_⟩⟩⟩
  rw [q_cl (by omega), hc]
  exact ⟨fun e => (nomatch e), fun c2 e => by cases e; exact q⟩
theorem sx_copy_n {S0 : Nat} {k : kS} {n : Nat} {p : Int32} {Q : Option Nat → kS → Prop} {QX : String → kS → Prop} (hn : n ≤ 20) (hp : p < 0 ∨ nI n ≤ p) (hc : ∀ i, n ≤ i → i < 20 → k.2.1 0 i = none) (q : QX "java/lang/IndexOutOfBoundsException" k) : wX5_copyNumbered S0 k p Q QX := by
  unfold wX5_copyNumbered
  refine ⟨fun _ => ⟨by decide, q⟩, fun h0 => ⟨fun _ => ⟨by decide, q⟩, fun h1 => ?_⟩⟩
  rcases q_rng p 20 (by decide) with ⟨j, hj, rfl⟩ | ⟨h2, -⟩
  · refine ⟨q_in hj (by decide), ?_⟩
    rw [q_cl (by omega), hc j ?_ hj]
    · exact ⟨fun _ => ⟨by decide, q⟩, fun c e => (nomatch e)⟩
    · rcases hp with hp | hp
      · exact absurd hp h0
      · exact (q_le (by omega) (by omega)).mp hp
  · exact absurd h2 (fun h3 => h3.elim h0 h1)
theorem sx_req_y {S0 : Nat} {k : kS} {i c : Nat} {Q : Option Nat → kS → Prop} {QX : String → kS → Prop} (hi : i < 40) (hc : k.2.1 1 i = some c) (q : Q (some c) k) : wX5_requestNumbered S0 k (nI i) Q QX := by
  unfold wX5_requestNumbered
  refine ⟨fun e => absurd e (q_nn (by omega)), fun _ => ⟨fun e => absurd e (by rw [show (40 : Int32) = nI 40 from rfl, q_le (by decide) (by omega)]; omega), fun _ => ⟨q_in hi (by decide), ?_⟩⟩⟩
  rw [q_cl (by omega), hc]
  exact ⟨fun e => (nomatch e), fun c2 e => by cases e; exact q⟩
theorem sx_req_n {S0 : Nat} {k : kS} {n : Nat} {p : Int32} {Q : Option Nat → kS → Prop} {QX : String → kS → Prop} (hn : n ≤ 40) (hp : p < 0 ∨ nI n ≤ p) (hc : ∀ i, n ≤ i → i < 40 → k.2.1 1 i = none) (q : QX "java/lang/IndexOutOfBoundsException" k) : wX5_requestNumbered S0 k p Q QX := by
  unfold wX5_requestNumbered
  refine ⟨fun _ => ⟨by decide, q⟩, fun h0 => ⟨fun _ => ⟨by decide, q⟩, fun h1 => ?_⟩⟩
  rcases q_rng p 40 (by decide) with ⟨j, hj, rfl⟩ | ⟨h2, -⟩
  · refine ⟨q_in hj (by decide), ?_⟩
    rw [q_cl (by omega), hc j ?_ hj]
    · exact ⟨fun _ => ⟨by decide, q⟩, fun c e => (nomatch e)⟩
    · rcases hp with hp | hp
      · exact absurd hp h0
      · exact (q_le (by omega) (by omega)).mp hp
  · exact absurd h2 (fun h3 => h3.elim h0 h1)
/-! THE RELATION of the class' heap k and the reference's heap m -/
/-- a copy: its fields f, the reference's columns g at its number i -/
def cRow (f g : Nat → Int32) (i : Nat) : Prop := f 10 = nI i ∧ f 11 = g 0 ∧ f 12 = g 1 ∧ f 13 = g 3 ∧ f 15 = g 4 ∧ f 16 = g 5 ∧ f 17 = g 6 ∧ ((f 14 = 0 ∧ g 2 = g 3) ∨ (f 14 = 1 ∧ g 2 = -1)) ∧ (∃ h, h < 6 ∧ g 0 = nI h) ∧ (∃ h, h < 6 ∧ g 3 = nI h) ∧ (g 5 = -1 ∨ ∃ h, h < 6 ∧ g 5 = nI h) ∧ (g 6 = 0 ∨ g 6 = 1)
def pC (k : kS) (m : mS) (n : Nat) (ca : Nat → Nat) : Prop :=
  (∀ i, i < n → k.2.1 0 i = some (ca i) ∧ k.2.2 (ca i) = 1 ∧ cRow (fun a => k.1 a (ca i)) (fun a => m a i) i) ∧ (∀ i, n ≤ i → i < 20 → k.2.1 0 i = none ∧ m 6 i = 0)
/-- a request: its fields f and its copy p, the reference's columns g; its due day is at most U -/
def rRow (f : Nat → Int32) (p : Option Nat) (g : Nat → Int32) (n : Nat) (ca : Nat → Nat) (U : Nat) : Prop := f 20 = g 8 ∧ f 21 = g 9 ∧ f 23 = g 10 ∧ f 24 = g 12 ∧ f 25 = g 14 ∧ f 26 = g 13 ∧ (∃ h, h < 6 ∧ g 8 = nI h) ∧ (g 14 = 0 ∨ g 14 = 1) ∧ (∃ w, w < 64 ∧ g 13 = nI w) ∧ (∃ u, u ≤ U ∧ g 12 = nI u) ∧ ((g 10 = 5 ∧ p = none ∧ g 11 = -1) ∨ (∃ j, j < n ∧ g 11 = nI j ∧ p = some (ca j) ∧ (∃ z, z < 5 ∧ g 10 = nI z)))
def pR (k : kS) (m : mS) (n r : Nat) (ca ra : Nat → Nat) (U : Nat) : Prop :=
  (∀ i, i < r → k.2.1 1 i = some (ra i) ∧ k.2.2 (ra i) = 3 ∧ rRow (fun a => k.1 a (ra i)) (k.2.1 22 (ra i)) (fun a => m a i) n ca U) ∧ (∀ i, r ≤ i → i < 40 → k.2.1 1 i = none ∧ m 12 i = 0 ∧ m 13 i = 0 ∧ m 14 i = 0) ∧ (∀ i j, i < r → j < r → ra i = ra j → i = j)
def cnt (f : Nat → Int32) (h : Nat) : Nat → Nat
  | 0 => 0
  | n + 1 => cnt f h n + (if f n = nI h then 1 else 0)
/-- what is owed: the reference's sum is at most E, up or down -/
def pA (k : kS) (m : mS) (n E : Nat) : Prop :=
  (∀ a b, a < 6 → b < 6 → k.1 4 (a * 6 + b) - k.1 4 (b * 6 + a) = m 20 (6 * a + b)) ∧ (∀ j, j < 36 → -(E : Int) ≤ (m 20 j).toInt ∧ (m 20 j).toInt ≤ E) ∧ (∀ h, h < 6 → k.1 5 h = nI (cnt (m 0) h n)) ∧ (∀ h, h < 6 → k.1 6 h = m 21 h)
def arr (k : kS) (a : Nat) : Nat := (k.1 31 a).toNatClampNeg
/-- the class' queue -/
def pQ (k : kS) (QC : List Nat) : Prop := k.1 3 0 = nI QC.length ∧ QC.length ≤ 552 ∧ ∀ j, j < 552 → k.2.1 2 j = QC[j]?
/-- a Sent a and the reference's message: kind x, about y, for the day z -/
def mRow (k : kS) (n r : Nat) (ca ra : Nat → Nat) (a : Nat) (x y z : Int32) : Prop :=
  k.2.2 a = 4 ∧ z = k.1 31 a ∧ (∃ v, v < 100000 ∧ k.1 31 a = nI v) ∧
  ((k.2.1 33 a = none ∧ ∃ i, i < n ∧ y = nI i ∧ k.2.1 32 a = some (ca i) ∧ ((x = 1 ∧ k.1 30 a = 0) ∨ (x = 0 ∧ k.1 30 a = 1))) ∨
   (∃ i c, i < r ∧ y = nI i ∧ k.2.1 33 a = some (ra i) ∧ k.2.1 32 a = some c ∧ ((x = 2 ∧ k.1 30 a = 2) ∨ (x = 3 ∧ k.1 30 a = 5) ∨ (x = 4 ∧ k.1 30 a = 6) ∨ (x = 5 ∧ k.1 30 a = 3) ∨ (x = 5 ∧ k.1 30 a = 4))))
/-- what is under way still fits the state of its request -/
def lRow (k : kS) (a : Nat) : Prop := ∀ q, k.2.1 33 a = some q →
  ((k.1 30 a = 2 ∧ k.1 23 q = 0 ∧ k.2.1 32 a = k.2.1 22 q) ∨ (k.1 30 a = 3 ∧ k.1 23 q = 1 ∧ k.2.1 32 a = k.2.1 22 q) ∨ (k.1 30 a = 4 ∧ k.1 23 q = 3 ∧ k.2.1 32 a = k.2.1 22 q) ∨ ((k.1 30 a = 5 ∨ k.1 30 a = 6) ∧ (k.1 23 q = 2 ∨ k.1 23 q = 3 ∨ k.1 23 q = 4)))
/-- two that carry (a question, a copy) are of different requests -/
def lPair (k : kS) (a b : Nat) : Prop := ∀ q, k.2.1 33 a = some q → k.2.1 33 b = some q → (k.1 30 a = 5 ∨ k.1 30 a = 6 ∨ k.1 30 b = 5 ∨ k.1 30 b = 6)
def pM (k : kS) (m : mS) (n r : Nat) (ca ra : Nat → Nat) (A QC : List Nat) : Prop :=
  m 19 0 = nI A.length ∧ A.length ≤ 3000 ∧ (∀ j a, A[j]? = some a → mRow k n r ca ra a (m 16 j) (m 17 j) (m 18 j)) ∧ (∀ a, a ∈ QC → a ∈ A ∧ lRow k a) ∧ QC.Pairwise (lPair k) ∧ A.Nodup
def Core (k : kS) (m : mS) (n r d : Nat) (ca ra : Nat → Nat) (A QC : List Nat) (U E : Nat) : Prop :=
  (m 7 0 = nI n ∧ k.1 0 0 = nI n ∧ n ≤ 20) ∧ (m 15 0 = nI r ∧ k.1 1 0 = nI r ∧ r ≤ 40) ∧ (m 22 0 = nI d ∧ k.1 2 0 = nI d ∧ d ≤ 51200) ∧ pC k m n ca ∧ pR k m n r ca ra U ∧ pA k m n E ∧ pQ k QC ∧ pM k m n r ca ra A QC
/-- how many requests have been granted -/
def Gr (f : Nat → Int32) : Nat → Nat
  | 0 => 0
  | n + 1 => Gr f n + (if f n = 1 ∨ f n = 2 ∨ f n = 3 ∨ f n = 4 then 1 else 0)
def UB (t : Nat) : Nat := 60000 + 20 * t
def EB (c t : Nat) : Nat := 100000 * c + 36 * t
