/-! THE PROPERTY: what holds between the calls, over the second picture's columns. -/
def bz (s : Int32) : Prop := s = 1 ∨ s = 2 ∨ s = 3
theorem bz_0 : ¬ bz 0 := by unfold bz; decide
theorem bz_4 : ¬ bz 4 := by unfold bz; decide
theorem bz_5 : ¬ bz 5 := by unfold bz; decide
/-- the row of a request that has a copy: its stage s, the copy's hands and place, its home, the request's house -/
def rok (s h p f0 f8 : Int32) : Prop := s = 0 ∨ s = 4 ∨ (s = 1 ∧ h = f0 ∧ p = -1) ∨ (s = 2 ∧ h = f8 ∧ p = f8) ∨ (s = 3 ∧ h = f8 ∧ p = -1)
def JB (n r : Nat) (f0 f1 f2 f3 f8 f9 f10 f11 : Nat → Int32) : Prop :=
  (∀ i, i < r → (f10 i = 5 ∧ f11 i = -1) ∨ ∃ j, j < n ∧ f11 i = nI j ∧ f0 j ≠ f8 i ∧ f1 j = f9 i ∧ rok (f10 i) (f3 j) (f2 j) (f0 j) (f8 i)) ∧
  (∀ i i', i < r → i' < r → bz (f10 i) → bz (f10 i') → f11 i = f11 i' → i = i') ∧
  (∀ j, j < n → (f3 j = f0 j ∧ f2 j = f0 j) ∨ ∃ i, i < r ∧ bz (f10 i) ∧ f11 i = nI j)
theorem rok_off {s h p h' p' f0 f8 : Int32} (hr : rok s h p f0 f8) (hn : ¬ bz s) : rok s h' p' f0 f8 := by
  rcases hr with e | e | ⟨e, -⟩ | ⟨e, -⟩ | ⟨e, -⟩
  · exact Or.inl e
  · exact Or.inr (Or.inl e)
  · exact absurd (Or.inl e) hn
  · exact absurd (Or.inr (Or.inl e)) hn
  · exact absurd (Or.inr (Or.inr e)) hn
section JBs
variable {n r : Nat} {f0 f1 f2 f3 f8 f9 f10 f11 g2 g3 g10 g11 : Nat → Int32}
/-- a copy j of a request i moves -/
theorem JB_move (h : JB n r f0 f1 f2 f3 f8 f9 f10 f11) (hn : n ≤ 20) {i j : Nat} (hi : i < r) (hj : j < n) (e11 : f11 i = nI j) (hun : ∀ x, x < r → x ≠ i → bz (f10 x) → f11 x ≠ nI j) (h2 : ∀ x, x ≠ j → g2 x = f2 x) (h3 : ∀ x, x ≠ j → g3 x = f3 x) (h10 : ∀ x, x ≠ i → g10 x = f10 x) (hok : rok (g10 i) (g3 j) (g2 j) (f0 j) (f8 i)) (h4 : ¬ bz (g10 i) → g3 j = f0 j ∧ g2 j = f0 j) : JB n r f0 f1 g2 g3 f8 f9 g10 f11 := by
  obtain ⟨a, b, c⟩ := h
  have own : f0 j ≠ f8 i ∧ f1 j = f9 i := by
    rcases a i hi with ⟨-, e⟩ | ⟨j', hj', e, e1, e2, -⟩
    · rw [e11] at e
      exact absurd e (q_m1 (by omega))
    · rw [e11] at e
      rw [q_inj (by omega) (by omega) e]
      exact ⟨e1, e2⟩
  refine ⟨fun x hx => ?_, fun x y hx hy bx bY e => ?_, fun y hy => ?_⟩
  · by_cases ex : x = i
    · subst ex
      exact Or.inr ⟨j, hj, e11, own.1, own.2, hok⟩
    · rw [h10 x ex]
      rcases a x hx with e | ⟨j', hj', e, e1, e2, e3⟩
      · exact Or.inl e
      · refine Or.inr ⟨j', hj', e, e1, e2, ?_⟩
        by_cases ej : j' = j
        · refine rok_off e3 (fun hb => hun x hx ex hb ?_)
          rw [e, ej]
        · rw [h2 j' ej, h3 j' ej]
          exact e3
  · by_cases ex : x = i
    · by_cases ey : y = i
      · rw [ex, ey]
      · rw [h10 y ey] at bY
        exact absurd (by rw [← e, ex]; exact e11) (hun y hy ey bY)
    · rw [h10 x ex] at bx
      by_cases ey : y = i
      · exact absurd (by rw [e, ey]; exact e11) (hun x hx ex bx)
      · rw [h10 y ey] at bY
        exact b x y hx hy bx bY e
  · by_cases ej : y = j
    · subst ej
      by_cases hb : bz (g10 i)
      · exact Or.inr ⟨i, hi, hb, e11⟩
      · exact Or.inl (h4 hb)
    · rw [h2 y ej, h3 y ej]
      rcases c y hy with e | ⟨x, hx, bx, e⟩
      · exact Or.inl e
      · refine Or.inr ⟨x, hx, ?_, e⟩
        rw [h10 x (fun ex => ej ?_)]
        · exact bx
        · rw [ex, e11] at e
          exact (q_inj (by omega) (by omega) e).symm
theorem JB_un (h : JB n r f0 f1 f2 f3 f8 f9 f10 f11) {i j : Nat} (hi : i < r) (hb : bz (f10 i)) (e11 : f11 i = nI j) : ∀ x, x < r → x ≠ i → bz (f10 x) → f11 x ≠ nI j := fun x hx hn bx e => hn (h.2.1 x i hx hi bx hb (e.trans e11.symm))
theorem JB_un0 (h : JB n r f0 f1 f2 f3 f8 f9 f10 f11) (hn : n ≤ 20) {j : Nat} (hj : j < n) (h2 : f2 j = f0 j) (hm : f0 j ≠ -1) : ∀ x, x < r → bz (f10 x) → f11 x ≠ nI j := by
  intro x hx bx e
  rcases h.1 x hx with ⟨e5, -⟩ | ⟨j', hj', e', e1, e2, e3⟩
  · rw [e5] at bx
    exact bz_5 bx
  · rw [e] at e'
    have ej : j = j' := q_inj (by omega) (by omega) e'
    subst ej
    rcases e3 with e4 | e4 | ⟨-, -, e4⟩ | ⟨-, -, e4⟩ | ⟨-, -, e4⟩
    · rw [e4] at bx; exact bz_0 bx
    · rw [e4] at bx; exact bz_4 bx
    · exact hm (h2.symm.trans e4)
    · exact e1 (h2.symm.trans e4)
    · exact hm (h2.symm.trans e4)
/-- a request's row is written anew: it has failed, or asks for a copy -/
theorem JB_row {r' : Nat} {g8 g9 : Nat → Int32} (h : JB n r f0 f1 f2 f3 f8 f9 f10 f11) {i : Nat} (hrr : r ≤ r') (hx : ∀ x, x < r' → x ≠ i → x < r) (h8 : ∀ x, x ≠ i → g8 x = f8 x) (h9 : ∀ x, x ≠ i → g9 x = f9 x) (h10 : ∀ x, x ≠ i → g10 x = f10 x) (h11 : ∀ x, x ≠ i → g11 x = f11 x) (hnb : i < r → ¬ bz (f10 i)) (hnew : (g10 i = 5 ∧ g11 i = -1) ∨ ∃ b, b < n ∧ g10 i = 0 ∧ g11 i = nI b ∧ f0 b ≠ g8 i ∧ f1 b = g9 i) : JB n r' f0 f1 f2 f3 g8 g9 g10 g11 := by
  obtain ⟨a, b, c⟩ := h
  have nb' : ¬ bz (g10 i) := by
    rcases hnew with ⟨e, -⟩ | ⟨_, _, e, -⟩
    · rw [e]; exact bz_5
    · rw [e]; exact bz_0
  refine ⟨fun x hx' => ?_, fun x y hx' hy' bx bY e => ?_, fun y hy => ?_⟩
  · by_cases ex : x = i
    · subst ex
      rcases hnew with e | ⟨q, hq, e1, e2, e3, e4⟩
      · exact Or.inl e
      · exact Or.inr ⟨q, hq, e2, e3, e4, Or.inl e1⟩
    · rw [h8 x ex, h9 x ex, h10 x ex, h11 x ex]
      exact a x (hx x hx' ex)
  · have ex : x ≠ i := fun e => nb' (e ▸ bx)
    have ey : y ≠ i := fun e => nb' (e ▸ bY)
    rw [h10 x ex] at bx
    rw [h10 y ey] at bY
    rw [h11 x ex, h11 y ey] at e
    exact b x y (hx x hx' ex) (hx y hy' ey) bx bY e
  · rcases c y hy with e | ⟨x, hx', bx, e⟩
    · exact Or.inl e
    · have ex : x ≠ i := fun e => hnb (e ▸ hx') (e ▸ bx)
      exact Or.inr ⟨x, by omega, by rw [h10 x ex]; exact bx, by rw [h11 x ex]; exact e⟩
/-- a copy is added -/
theorem JB_add {g0 g1 : Nat → Int32} (h : JB n r f0 f1 f2 f3 f8 f9 f10 f11) (h0 : ∀ x, x ≠ n → g0 x = f0 x) (h1 : ∀ x, x ≠ n → g1 x = f1 x) (h2 : ∀ x, x ≠ n → g2 x = f2 x) (h3 : ∀ x, x ≠ n → g3 x = f3 x) (e3 : g3 n = g0 n) (e2 : g2 n = g0 n) : JB (n + 1) r g0 g1 g2 g3 f8 f9 f10 f11 := by
  obtain ⟨a, b, c⟩ := h
  refine ⟨fun x hx => ?_, b, fun y hy => ?_⟩
  · rcases a x hx with e | ⟨j, hj, q1, q2, q3, q4⟩
    · exact Or.inl e
    · have hn : j ≠ n := by omega
      refine Or.inr ⟨j, by omega, q1, ?_, ?_, ?_⟩
      · rw [h0 j hn]; exact q2
      · rw [h1 j hn]; exact q3
      · rw [h0 j hn, h2 j hn, h3 j hn]; exact q4
  · by_cases hn : y = n
    · rw [hn]
      exact Or.inl ⟨e3, e2⟩
    · rw [h0 y hn, h2 y hn, h3 y hn]
      exact c y (by omega)
end JBs
/-! renewals under way -/
def ct (p : Nat → Bool) : Nat → Nat
  | 0 => 0
  | n + 1 => ct p n + (if p n then 1 else 0)
theorem ct_cg {p q : Nat → Bool} : ∀ n, (∀ x, x < n → p x = q x) → ct p n = ct q n := by
  intro n
  induction n with
  | zero => intro _; rfl
  | succ n ih =>
    intro h
    show ct p n + _ = ct q n + _
    rw [ih (fun x hx => h x (by omega)), h n (by omega)]
theorem ct_mono {p q : Nat → Bool} : ∀ n, (∀ x, x < n → p x = true → q x = true) → ct p n ≤ ct q n := by
  intro n
  induction n with
  | zero => intro _; exact Nat.le_refl _
  | succ n ih =>
    intro h
    have h1 := ih (fun x hx => h x (by omega))
    show ct p n + _ ≤ ct q n + _
    by_cases e : p n = true
    · rw [if_pos e, if_pos (h n (by omega) e)]; omega
    · rw [if_neg e]; omega
/-- one of them is no longer counted -/
theorem ct_drop {p q : Nat → Bool} {j : Nat} : ∀ n, j < n → (∀ x, x < n → x ≠ j → p x = q x) → p j = true → q j = false → ct q n + 1 = ct p n := by
  intro n
  induction n with
  | zero => intro h; omega
  | succ n ih =>
    intro hj h hp hq
    show ct q n + _ + 1 = ct p n + _
    by_cases e : j = n
    · subst e
      rw [hp, hq, ct_cg (p := q) (q := p) j (fun x hx => (h x (by omega) (by omega)).symm)]
      simp
    · have := ih (by omega) (fun x hx hn => h x (by omega) hn) hp hq
      rw [h n (by omega) (by omega)]
      omega
def rnwB (m : mS) (lo : Nat) : Nat → Bool := fun k => decide (m 16 k = 3 ∧ (lo ≤ k ∨ m 18 k ≠ m 22 0))
def rnw (m : mS) (lo u : Nat) : Nat := ct (rnwB m lo) u
theorem rnw_cg {m m' : mS} (lo u : Nat) (h : ∀ x, x < u → m' 16 x = m 16 x ∧ m' 18 x = m 18 x) (h22 : m' 22 0 = m 22 0) : rnw m' lo u = rnw m lo u := by
  refine ct_cg u (fun x hx => ?_)
  unfold rnwB
  rw [(h x hx).1, (h x hx).2, h22]
/-- one more is sent, no renewal -/
theorem rnw_send {m : mS} {lo u : Nat} {x y z : Int32} (hx : x ≠ 3) : rnw (mSend m u x y z) lo (u + 1) = rnw m lo u := by
  have e16 : ∀ k, mSend m u x y z 16 k = upd (m 16) u x k := fun _ => rfl
  have e18 : ∀ k, mSend m u x y z 18 k = upd (m 18) u z k := fun _ => rfl
  have h1 : rnw (mSend m u x y z) lo u = rnw m lo u := rnw_cg lo u (fun k hk => ⟨(e16 k).trans (upd_n _ _ (by omega)), (e18 k).trans (upd_n _ _ (by omega))⟩) rfl
  show ct _ u + _ = _
  rw [show ct (rnwB (mSend m u x y z) lo) u = rnw m lo u from h1, if_neg]
  · rfl
  · unfold rnwB
    rw [e16, upd_s]
    simp [hx]
theorem rnw_send1 {m : mS} {lo u : Nat} {x y z : Int32} : rnw (mSend m u x y z) lo (u + 1) ≤ rnw m lo u + 1 := by
  have e16 : ∀ k, mSend m u x y z 16 k = upd (m 16) u x k := fun _ => rfl
  have e18 : ∀ k, mSend m u x y z 18 k = upd (m 18) u z k := fun _ => rfl
  have h1 : rnw (mSend m u x y z) lo u = rnw m lo u := rnw_cg lo u (fun k hk => ⟨(e16 k).trans (upd_n _ _ (by omega)), (e18 k).trans (upd_n _ _ (by omega))⟩) rfl
  show ct _ u + _ ≤ _
  rw [show ct (rnwB (mSend m u x y z) lo) u = rnw m lo u from h1]
  split <;> omega
def JK (n : Nat) (f4 : Nat → Int32) : Prop := ∀ j, j < n → f4 j = -1 ∨ f4 j = 0 ∨ f4 j = 1
def JS (f21 : Nat → Int32) : Prop := ∀ h, h < 6 → f21 h = 0 ∨ f21 h = 1 ∨ f21 h = 2
def JD (r c R : Nat) (f12 : Nat → Int32) : Prop := (∀ i, i < r → ∃ w, f12 i = nI w ∧ w + 20 * R ≤ 60000 + 20 * c) ∧ R ≤ c
theorem JD_mono {r c c' R R' : Nat} {f12 : Nat → Int32} (h : JD r c R f12) (hR : R' ≤ R) (hc : c ≤ c') : JD r c' R' f12 := by
  refine ⟨fun i hi => ?_, by have := h.2; omega⟩
  obtain ⟨w, e, hw⟩ := h.1 i hi
  exact ⟨w, e, by omega⟩
def J (m : mS) (n r c lo u : Nat) : Prop := JB n r (m 0) (m 1) (m 2) (m 3) (m 8) (m 9) (m 10) (m 11) ∧ JK n (m 4) ∧ JS (m 21) ∧ JD r c (rnw m lo u) (m 12)
/-- how a stage may go on -/
def okst (a b : Int32) : Prop := ∃ x y : Nat, x ≤ 5 ∧ y ≤ 5 ∧ a = nI x ∧ b = nI y ∧ x ≤ y ∧ (y = 5 → x = 0 ∨ x = 5)
theorem okst_tr {a b c : Int32} (h1 : okst a b) (h2 : okst b c) : okst a c := by
  obtain ⟨x, y, a1, a2, a3, a4, a5, a6⟩ := h1
  obtain ⟨y', z, b1, b2, b3, b4, b5, b6⟩ := h2
  have e : y = y' := q_inj (by omega) (by omega) (a4.symm.trans b3)
  subst e
  refine ⟨x, z, a1, b2, a3, b4, by omega, fun e => ?_⟩
  rcases b6 e with h | h
  · omega
  · exact a6 h
def GO (r : Nat) (f g : Nat → Int32) : Prop := ∀ i, i < r → okst (f i) (g i)
theorem GO_tr {r : Nat} {f g h : Nat → Int32} (h1 : GO r f g) (h2 : GO r g h) : GO r f h := fun i hi => okst_tr (h1 i hi) (h2 i hi)
theorem JB_st {n r : Nat} {f0 f1 f2 f3 f8 f9 f10 f11 : Nat → Int32} (h : JB n r f0 f1 f2 f3 f8 f9 f10 f11) {i : Nat} (hi : i < r) : ∃ x, x ≤ 5 ∧ f10 i = nI x := by
  rcases h.1 i hi with ⟨e, -⟩ | ⟨j, hj, q1, q2, q3, q4⟩
  · exact ⟨5, by omega, e⟩
  · rcases q4 with e | e | ⟨e, -⟩ | ⟨e, -⟩ | ⟨e, -⟩
    · exact ⟨0, by omega, e⟩
    · exact ⟨4, by omega, e⟩
    · exact ⟨1, by omega, e⟩
    · exact ⟨2, by omega, e⟩
    · exact ⟨3, by omega, e⟩
theorem GO_rf {n r : Nat} {f0 f1 f2 f3 f8 f9 f10 f11 : Nat → Int32} (h : JB n r f0 f1 f2 f3 f8 f9 f10 f11) : GO r f10 f10 := by
  intro i hi
  obtain ⟨x, hx, e⟩ := JB_st h hi
  exact ⟨x, x, hx, hx, e, e, Nat.le_refl _, fun e => Or.inr e⟩
theorem GO_one {n r : Nat} {f0 f1 f2 f3 f8 f9 f10 f11 g10 : Nat → Int32} (h : JB n r f0 f1 f2 f3 f8 f9 f10 f11) {i : Nat} (hi : okst (f10 i) (g10 i)) (hx : ∀ x, x ≠ i → g10 x = f10 x) : GO r f10 g10 := by
  intro x hr
  by_cases e : x = i
  · rw [e]; exact hi
  · rw [hx x e]; exact GO_rf h x hr
