/-! what 'tell' writes down -/
def it (S : Nat → (Nat → Int32) → (Nat → Int32)) : Nat → (Nat → Int32) → (Nat → Int32)
  | 0, f => f
  | x + 1, f => S x (it S x f)
def sA1 (m : mS) (x : Nat) (f : Nat → Int32) : Nat → Int32 := upd f 1 (31 * f 1 + m 3 x)
def sA2 (m : mS) (x : Nat) (f : Nat → Int32) : Nat → Int32 := upd f 2 (31 * f 2 + m 4 x)
def sA3 (m : mS) (x : Nat) (f : Nat → Int32) : Nat → Int32 := upd f 3 (2 * f 3 + fr m x)
def sA (m : mS) (x : Nat) (f : Nat → Int32) : Nat → Int32 := sA3 m x (sA2 m x (sA1 m x f))
def sB (m : mS) (x : Nat) (f : Nat → Int32) : Nat → Int32 := upd f (10 + x) (1000000 * m 10 x + 10000 * m 11 x + du m x)
def sD (m : mS) (x y : Nat) (f : Nat → Int32) : Nat → Int32 := upd f (5 + x % 3) (101 * f (5 + x % 3) + m 20 (6 * x + y))
def sC (m : mS) (x : Nat) (f : Nat → Int32) : Nat → Int32 := it (sD m x) 6 (upd f 4 (3 * f 4 + m 21 x))
def TELL (m : mS) (n r : Nat) : Nat → Int32 := it (sC m) 6 (it (sB m) r (it (sA m) n (upd (fun _ => 0) 0 (m 22 0))))
theorem TELL_thr (m : mS) (n r : Nat) (x : Int32) : TELL (mset m 23 0 x) n r = TELL m n r := rfl
theorem it_keep {S : Nat → (Nat → Int32) → (Nat → Int32)} {a : Nat} (h : ∀ x f, S x f a = f a) : ∀ n f, it S n f a = f a := by
  intro n
  induction n with
  | zero => intro f; rfl
  | succ n ih => intro f; exact (h n _).trans (ih f)
theorem sD_n (m : mS) (x : Nat) {a : Nat} (h : a < 5 ∨ 7 < a) (y : Nat) (f : Nat → Int32) : sD m x y f a = f a := upd_n _ _ (by omega)
theorem sC_n (m : mS) {a : Nat} (h : a < 4 ∨ 7 < a) (x : Nat) (f : Nat → Int32) : sC m x f a = f a := (it_keep (sD_n m x (by omega)) 6 _).trans (upd_n _ _ (by omega))
theorem sB_n (m : mS) {a : Nat} (h : a < 10) (x : Nat) (f : Nat → Int32) : sB m x f a = f a := upd_n _ _ (by omega)
theorem sA_n (m : mS) {a : Nat} (h : a < 1 ∨ 3 < a) (x : Nat) (f : Nat → Int32) : sA m x f a = f a := (upd_n _ _ (by omega)).trans ((upd_n _ _ (by omega)).trans (upd_n _ _ (by omega)))
theorem TELL_0 (m : mS) (n r : Nat) : TELL m n r 0 = m 22 0 := (it_keep (sC_n m (by omega)) 6 _).trans ((it_keep (sB_n m (by omega)) r _).trans ((it_keep (sA_n m (by omega)) n _).trans (upd_s _ _ _)))
theorem sB_at (m : mS) {i : Nat} : ∀ r f, i < r → it (sB m) r f (10 + i) = 1000000 * m 10 i + 10000 * m 11 i + du m i := by
  intro r
  induction r with
  | zero => intro f h; omega
  | succ r ih =>
    intro f h
    show upd (it (sB m) r f) (10 + r) _ (10 + i) = _
    by_cases e : i = r
    · rw [e]; exact upd_s _ _ _
    · rw [upd_n _ _ (by omega)]
      exact ih f (by omega)
theorem TELL_B (m : mS) {n r i : Nat} (hi : i < r) : TELL m n r (10 + i) = 1000000 * m 10 i + 10000 * m 11 i + du m i := (it_keep (sC_n m (by omega)) 6 _).trans (sB_at m r _ hi)
theorem it_inv {S : Nat → (Nat → Int32) → (Nat → Int32)} {P : (Nat → Int32) → Prop} {N : Nat} (h : ∀ x f, x < N → P f → P (S x f)) : ∀ n f, n ≤ N → P f → P (it S n f) := by
  intro n
  induction n with
  | zero => intro f _ h; exact h
  | succ n ih => intro f hn hp; exact h n _ (by omega) (ih f (by omega) hp)
def Z567 (f : Nat → Int32) : Prop := f 5 = 0 ∧ f 6 = 0 ∧ f 7 = 0
theorem TELL_D {m : mS} {n r : Nat} (h : ∀ j, j < 36 → m 20 j = 0) : Z567 (TELL m n r) := by
  have hD : ∀ x, x < 6 → ∀ y f, y < 6 → Z567 f → Z567 (sD m x y f) := by
    intro x hx y f hy hf
    have h20 : m 20 (6 * x + y) = 0 := h _ (by omega)
    have key : ∀ a, a = 5 ∨ a = 6 ∨ a = 7 → sD m x y f a = 0 := by
      intro a ha
      have hfa : f a = 0 := by
        rcases ha with rfl | rfl | rfl
        · exact hf.1
        · exact hf.2.1
        · exact hf.2.2
      unfold sD
      by_cases e : a = 5 + x % 3
      · rw [← e, upd_s, hfa, h20]; decide
      · rw [upd_n _ _ e]; exact hfa
    exact ⟨key 5 (by omega), key 6 (by omega), key 7 (by omega)⟩
  refine it_inv (N := 6) (fun x f hx hf => it_inv (N := 6) (fun y f hy hf => hD x hx y f hy hf) 6 _ (Nat.le_refl _) ⟨(upd_n _ _ (by omega)).trans hf.1, (upd_n _ _ (by omega)).trans hf.2.1, (upd_n _ _ (by omega)).trans hf.2.2⟩) 6 _ (Nat.le_refl _) ?_
  exact ⟨(it_keep (sB_n m (by omega)) r _).trans (it_keep (sA_n m (by omega)) n _), (it_keep (sB_n m (by omega)) r _).trans (it_keep (sA_n m (by omega)) n _), (it_keep (sB_n m (by omega)) r _).trans (it_keep (sA_n m (by omega)) n _)⟩
theorem i53 : ∀ x, x < 6 → 5 + (nI x - nI x / 3 * 3) = nI (5 + x % 3) := by decide
theorem fr_01 (m : mS) (i : Nat) : fr m i = 0 ∨ fr m i = 1 := by 
  unfold fr
  split
  · exact Or.inr rfl
  · exact Or.inl rfl
section TL
variable {S0 : Nat} {k : kS} {m : mS} {n r d : Nat} {f1 f2 : Nat → Int32} {Q : (Nat → Int32) → kS → Prop}
theorem tell_l165 {K : Int32 → (Nat → Int32) → (Nat → Int32) → (Nat → Int32) → Nat → kS → Prop} {x : Nat} (h : Ob k m n r d) (hx : x < 6) {g0 : Nat → Int32} : ∀ (y z N : Nat), z + y = 6 → N + y ≤ 200 → K (nI (x + 1)) f1 f2 (it (sD m x) 6 g0) (N + y) k → wL_tell_165 S0 Q K (y + 1) (nI x) (nI z) f1 f2 (it (sD m x) z g0) N k := by
  intro y
  induction y with
  | zero =>
    intro z N hz hN hK
    obtain rfl : z = 6 := by omega
    unfold wL_tell_165
    refine ⟨by omega, bi (by decide) ?_⟩
    rw [nI_1]
    exact hK
  | succ y ih =>
    intro z N hz hN hK
    unfold wL_tell_165
    rw [i53 x hx]
    refine ⟨by omega, bn (by rw [show (6 : Int32) = nI 6 from rfl, q_le (by omega) (by omega)]; omega) ⟨q_in (by omega) (by decide), by omega, ob_owes h hx (by omega) ⟨q_in (by omega) (by decide), ?_⟩⟩⟩
    rw [q_cl (by omega)]
    rintro f23 rfl
    rw [nI_1]
    exact ih (z + 1) (N + 1) (by omega) (by omega) (by rw [show N + 1 + y = N + (y + 1) by omega]; exact hK)
theorem tell_l140 (h : Ob k m n r d) {g0 : Nat → Int32} (hQ : Q (it (sC m) 6 g0) k) : ∀ (y z N : Nat), z + y = 6 → N + 7 * y ≤ 200 → wL_tell_140 S0 Q (y + 1) (nI z) f1 f2 (it (sC m) z g0) N k := by
  intro y
  induction y with
  | zero =>
    intro z N hz hN
    obtain rfl : z = 6 := by omega
    unfold wL_tell_140
    exact ⟨by omega, bi (by decide) hQ⟩
  | succ y ih =>
    intro z N hz hN
    unfold wL_tell_140
    refine ⟨by omega, bn (by rw [show (6 : Int32) = nI 6 from rfl, q_le (by omega) (by omega)]; omega) ⟨by unfold vp_in; decide, by omega, ob_quota h (by omega) ⟨by unfold vp_in; decide, ?_⟩⟩⟩
    rintro f16 rfl
    refine ⟨7, ?_⟩
    refine tell_l165 (g0 := upd (it (sC m) z g0) 4 (3 * it (sC m) z g0 4 + m 21 z)) h (by omega) 6 0 (N + 1) rfl (by omega) ?_
    exact ih (z + 1) (N + 1 + 6) (by omega) (by omega)
theorem tell_l88 (h : Ob k m n r d) (hr : r ≤ 20) (e2 : f2 40 = nI r) {g0 : Nat → Int32} (hQ : Q (it (sC m) 6 (it (sB m) r g0)) k) : ∀ (y z N : Nat), z + y = r → N + 4 * y + 42 ≤ 200 → wL_tell_88 S0 Q (y + 1) (nI z) f1 f2 (it (sB m) z g0) N k := by
  intro y
  have c40 : f2 ((40 : Int32).toNatClampNeg) = nI r := e2
  induction y with
  | zero =>
    intro z N hz hN
    obtain rfl : z = r := by omega
    unfold wL_tell_88
    rw [c40]
    refine ⟨by omega, by unfold vp_in; decide, bi (by rw [q_le (by omega) (by omega)]; omega) ⟨by omega, 7, ?_⟩⟩
    exact tell_l140 (g0 := it (sB m) z g0) h hQ 6 0 N rfl (by omega)
  | succ y ih =>
    intro z N hz hN
    unfold wL_tell_88
    rw [c40, show (10 : Int32) = nI 10 from rfl, nI_add]
    refine ⟨by omega, by unfold vp_in; decide, bn (by rw [q_le (by omega) (by omega)]; omega) ⟨by omega, ob_state h (by omega) ⟨by omega, ob_copyOf h (by omega) ⟨by omega, ob_due h (by omega) ⟨q_in (by omega) (by decide), ?_⟩⟩⟩⟩⟩
    rw [q_cl (by omega)]
    rintro f36 rfl
    rw [nI_1]
    exact ih (z + 1) (N + 1 + 1 + 2) (by omega) (by omega)
theorem tell_l15 (h : Ob k m n r d) (hn : n ≤ 20) (hr : r ≤ 20) (e1 : f1 40 = nI n) (e2 : f2 40 = nI r) {g0 : Nat → Int32} (hQ : Q (it (sC m) 6 (it (sB m) r (it (sA m) n g0))) k) : ∀ (y z N : Nat), z + y = n → N + 3 * y + 122 ≤ 200 → wL_tell_15 S0 Q (y + 1) (nI z) f1 f2 (it (sA m) z g0) N k := by
  intro y
  have c40 : f1 ((40 : Int32).toNatClampNeg) = nI n := e1
  induction y with
  | zero =>
    intro z N hz hN
    obtain rfl : z = n := by omega
    unfold wL_tell_15
    rw [c40]
    refine ⟨by omega, by unfold vp_in; decide, bi (by rw [q_le (by omega) (by omega)]; omega) ⟨by omega, r + 1, ?_⟩⟩
    exact tell_l88 (g0 := it (sA m) z g0) h hr e2 hQ r 0 N (by omega) (by omega)
  | succ y ih =>
    intro z N hz hN
    unfold wL_tell_15
    rw [c40]
    refine ⟨by omega, by unfold vp_in; decide, bn (by rw [q_le (by omega) (by omega)]; omega) ⟨by unfold vp_in; decide, by omega, ob_hands h (by omega) ⟨by unfold vp_in; decide, ?_⟩⟩⟩
    rintro f43 rfl
    refine ⟨by unfold vp_in; decide, by omega, ob_listed h (by omega) ⟨by unfold vp_in; decide, ?_⟩⟩
    rintro f49 rfl
    refine ⟨by unfold vp_in; decide, by omega, ob_free h (by omega) ?_⟩
    have hih := ih (z + 1) (N + 1 + 1 + 1) (by omega) (by omega)
    rw [nI_1]
    have es : it (sA m) (z + 1) g0 = upd (sA2 m z (sA1 m z (it (sA m) z g0))) 3 (2 * sA2 m z (sA1 m z (it (sA m) z g0)) 3 + fr m z) := rfl
    rw [es] at hih
    rcases fr_01 m z with e | e
    · rw [e] at hih ⊢
      refine b0 ⟨by unfold vp_in; decide, ?_⟩
      rintro f56 rfl
      exact hih
    · rw [e] at hih ⊢
      refine b1 ⟨by unfold vp_in; decide, ?_⟩
      rintro f58 rfl
      exact hih
theorem tell_ok (h : Ob k m n r d) (hn : n ≤ 20) (hr : r ≤ 20) (e1 : f1 40 = nI n) (e2 : f2 40 = nI r) (hQ : Q (TELL m n r) k) : wL_tell S0 k f1 f2 Q := by
  unfold wL_tell
  refine ⟨by omega, ob_today h ⟨by unfold vp_in; decide, ?_⟩⟩
  rintro f5 rfl
  refine ⟨n + 1, ?_⟩
  exact tell_l15 (g0 := upd (fun _ => 0) 0 (m 22 0)) h hn hr e1 e2 hQ n 0 (0 + 8) (by omega) (by omega)
end TL
