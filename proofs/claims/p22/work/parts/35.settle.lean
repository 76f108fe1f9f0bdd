/-! PURE: settling; today -/
def kcol (k : kS) (a : Nat) (f : Nat → Int32) : kS := (fun b => if b = a then f else k.1 b, k.2)
def mcol (m : mS) (a : Nat) (f : Nat → Int32) : mS := fun b => if b = a then f else m b
theorem kcol_id (k : kS) (a : Nat) : kcol k a (k.1 a) = k := by
  have : (fun b => if b = a then k.1 a else k.1 b) = k.1 := by
    funext b
    by_cases h : b = a
    · rw [if_pos h, h]
    · rw [if_neg h]
  unfold kcol
  rw [this]
theorem mcol_id (m : mS) (a : Nat) : mcol m a (m a) = m := by
  funext b
  show (if b = a then m a else m b) = m b
  by_cases h : b = a
  · rw [if_pos h, h]
  · rw [if_neg h]
theorem kset_kcol (k : kS) (a : Nat) (f : Nat → Int32) (i : Nat) (v : Int32) : kset (kcol k a f) a i v = kcol k a (upd f i v) := by
  have : (fun b => if b = a then upd ((kcol k a f).1 b) i v else (kcol k a f).1 b) = fun b => if b = a then upd f i v else k.1 b := by
    funext b
    by_cases h : b = a
    · rw [if_pos h, if_pos h, h, show (kcol k a f).1 a = f from if_pos rfl]
    · rw [if_neg h, if_neg h]; exact if_neg h
  unfold kset
  rw [this]
  rfl
theorem mset_mcol (m : mS) (a : Nat) (f : Nat → Int32) (i : Nat) (v : Int32) : mset (mcol m a f) a i v = mcol m a (upd f i v) := by
  funext b
  show (if b = a then upd (mcol m a f b) i v else mcol m a f b) = (if b = a then upd f i v else m b)
  by_cases h : b = a
  · rw [if_pos h, if_pos h, h, show mcol m a f a = f from if_pos rfl]
  · rw [if_neg h, if_neg h]; exact if_neg h
theorem kcol_s (k : kS) (a : Nat) (f : Nat → Int32) : (kcol k a f).1 a = f := if_pos rfl
theorem mcol_s (m : mS) (a : Nat) (f : Nat → Int32) : mcol m a f a = f := if_pos rfl
theorem upd_z {f : Nat → Int32} {x : Nat} {v : Int32} (h : ∀ j, j < x → f j = v) : ∀ j, j < x + 1 → upd f x v j = v := by
  intro j hj
  by_cases e : j = x
  · rw [e]; exact upd_s _ _ _
  · rw [upd_n _ _ e]; exact h j (by omega)
def tp (x : Int32) : Nat := if x ≤ 0 then 0 else 1
def wz (x : Int32) : Nat := if x = 0 then 0 else 1
def cI (w : Nat → Nat → Int32) (h : Nat) : Nat → Nat → Nat
  | 0, _ => 0
  | y + 1, o => wz (w h o) + cI w h y (o + 1)
def cO (w : Nat → Nat → Int32) : Nat → Nat → Nat
  | 0, _ => 0
  | y + 1, h => cI w h (5 - h) (h + 1) + cO w y (h + 1)
def cR (m : mS) : Nat → Nat → Nat
  | 0, _ => 0
  | y + 1, x => tp (m 20 x) + cR m y (x + 1)
theorem wz_le (x : Int32) : wz x ≤ 1 := by unfold wz; split <;> omega
theorem tp_le (x : Int32) : tp x ≤ 1 := by unfold tp; split <;> omega
theorem cI_le (w : Nat → Nat → Int32) (h : Nat) : ∀ y o, cI w h y o ≤ y := by
  intro y
  induction y with
  | zero => intro o; exact Nat.le_refl _
  | succ y ih => intro o; have h1 := wz_le (w h o); have h2 := ih (o + 1); show wz _ + cI w h y (o + 1) ≤ y + 1; omega
theorem cO_le (w : Nat → Nat → Int32) : ∀ y h, cO w y h ≤ 5 * y := by
  intro y
  induction y with
  | zero => intro o; exact Nat.le_refl _
  | succ y ih => intro h; have h1 := cI_le w h (5 - h) (h + 1); have h2 := ih (h + 1); show cI w h _ _ + cO w y (h + 1) ≤ _; omega
def bal (k : kS) (a b : Nat) : Int32 := k.1 4 (a * 6 + b) - k.1 4 (b * 6 + a)
theorem sx_clr {S0 : Nat} {Q : Int32 → kS → Prop} {K : Int32 → Int32 → kS → Prop} {v : Int32} {k : kS} (hQ : ∀ f, (∀ j, j < 36 → f j = 0) → Q v (kcol k 4 f)) : ∀ (y x : Nat) (f : Nat → Int32), x + y = 36 → (∀ j, j < x → f j = 0) → wX0_clearDebts_l46 S0 Q K (y + 1) (nI x) v (kcol k 4 f) := by
  intro y
  induction y with
  | zero =>
    intro x f hxy hf
    obtain rfl : x = 36 := by omega
    unfold wX0_clearDebts_l46
    exact bi (by decide) (hQ f hf)
  | succ y ih =>
    intro x f hxy hf
    unfold wX0_clearDebts_l46
    refine bn (by rw [show (36 : Int32) = nI 36 from rfl, q_le (by omega) (by omega)]; omega) ⟨q_in (by omega) (by decide), ?_⟩
    rintro k12 rfl
    rw [q_cl (by omega), kset_kcol, nI_1]
    exact ih (x + 1) _ (by omega) (upd_z hf)
theorem sx_in {S0 : Nat} {Q : Int32 → kS → Prop} {K : Int32 → Int32 → kS → Prop} {k : kS} {h : Nat} (hh : h < 6) : ∀ (y o cn : Nat), o + y = 6 → K (nI (h + 1)) (nI (cn + cI (bal k) h y o)) k → wX0_clearDebts_l14 S0 Q K (y + 1) (nI o) (nI h) (nI cn) k := by
  intro y
  induction y with
  | zero =>
    intro o cn ho hK
    obtain rfl : o = 6 := by omega
    unfold wX0_clearDebts_l14
    refine bi (by decide) ?_
    rw [nI_1]; exact hK
  | succ y ih =>
    intro o cn ho hK
    unfold wX0_clearDebts_l14
    refine bn (by rw [show (6 : Int32) = nI 6 from rfl, q_le (by omega) (by omega)]; omega) (sx_bal hh (by omega) ?_)
    rw [nI_1, nI_1]
    have e : cI (bal k) h (y + 1) o = wz (bal k h o) + cI (bal k) h y (o + 1) := rfl
    rw [e] at hK
    by_cases hz : bal k h o = 0
    · rw [show wz (bal k h o) = 0 from if_pos hz, Nat.zero_add] at hK
      exact bi hz (ih (o + 1) cn (by omega) hK)
    · rw [show wz (bal k h o) = 1 from if_neg hz, ← Nat.add_assoc] at hK
      exact bn hz (ih (o + 1) (cn + 1) (by omega) hK)
theorem sx_out {S0 : Nat} {Q : Int32 → kS → Prop} {k : kS} {v : Int32} (hQ : ∀ f, (∀ j, j < 36 → f j = 0) → Q v (kcol k 4 f)) : ∀ (y h cn : Nat), h + y = 6 → cn + 5 * y < 900 → v = nI (cn + cO (bal k) y h) → wX0_clearDebts_l4 S0 Q (y + 1) (nI h) (nI cn) k := by
  intro y
  induction y with
  | zero =>
    intro h cn hh hc hv
    obtain rfl : h = 6 := by omega
    unfold wX0_clearDebts_l4
    refine bi (by decide) ⟨37, ?_⟩
    have := sx_clr (S0 := S0) (K := fun u0 u1 u2 => wX0_clearDebts_l4 S0 Q 0 u0 u1 u2) hQ 36 0 (k.1 4) rfl (fun j hj => by omega)
    rw [kcol_id, hv] at this
    exact this
  | succ y ih =>
    intro h cn hh hc hv
    unfold wX0_clearDebts_l4
    refine bn (by rw [show (6 : Int32) = nI 6 from rfl, q_le (by omega) (by omega)]; omega) ⟨5 - h + 1, ?_⟩
    rw [nI_1]
    refine sx_in (by omega) (5 - h) (h + 1) cn (by omega) ?_
    have hle := cI_le (bal k) h (5 - h) (h + 1)
    refine ih (h + 1) _ (by omega) (by omega) ?_
    rw [hv]
    show nI (cn + (cI (bal k) h (5 - h) (h + 1) + cO (bal k) y (h + 1))) = _
    rw [Nat.add_assoc]
theorem pr_pos {x : Int32} : x ≤ 0 ↔ x.toInt ≤ 0 := by
  rw [Int32.le_iff_toInt_le]; exact Iff.rfl
theorem pr_pair {k : kS} {m : mS} {n E : Nat} (h : pA k m n E) (hE : E < 2147483648) {a b i j : Nat} (ha : a < 6) (hb : b < 6) (hi : i = 6 * a + b) (hj : j = 6 * b + a) : wz (bal k a b) = tp (m 20 i) + tp (m 20 j) := by
  have h1 := h.1 a b ha hb
  have h2 := h.1 b a hb ha
  have hb1 := h.2.1 i (by omega)
  have hb2 := h.2.1 j (by omega)
  have e : m 20 j = 0 - m 20 i := by rw [hi, hj, ← h1, ← h2]; grind
  have ez : (0 : Int32).toInt = 0 := rfl
  have e2 : (m 20 j).toInt = - (m 20 i).toInt := by rw [e, q_sub (by omega) (by omega)]; omega
  have e3 : bal k a b = m 20 i := by rw [hi]; exact h1
  rw [e3]
  by_cases hz : m 20 i = 0
  · rw [hz] at e2
    rw [show wz (m 20 i) = 0 from if_pos hz, show tp (m 20 i) = 0 from if_pos (by rw [pr_pos, hz]; omega), show tp (m 20 j) = 0 from if_pos (by rw [pr_pos]; omega)]
  · have hne : (m 20 i).toInt ≠ 0 := fun e => hz (Int32.toInt_inj.mp (e.trans ez.symm))
    rw [show wz (m 20 i) = 1 from if_neg hz]
    by_cases hp : (m 20 i).toInt ≤ 0
    · rw [show tp (m 20 i) = 0 from if_pos (pr_pos.mpr hp), show tp (m 20 j) = 1 from if_neg (by rw [pr_pos]; omega)]
    · rw [show tp (m 20 i) = 1 from if_neg (by rw [pr_pos]; exact hp), show tp (m 20 j) = 0 from if_pos (by rw [pr_pos]; omega)]
theorem pr_diag {k : kS} {m : mS} {n E : Nat} (h : pA k m n E) {a i : Nat} (ha : a < 6) (hi : i = 6 * a + a) : tp (m 20 i) = 0 := by
  have h1 := h.1 a a ha ha
  rw [hi, ← h1]
  exact if_pos (by rw [show k.1 4 (a * 6 + a) - k.1 4 (a * 6 + a) = 0 by grind]; decide)
theorem cnt_eq {k : kS} {m : mS} {n E : Nat} (h : pA k m n E) (hE : E < 2147483648) : cO (bal k) 6 0 = cR m 36 0 := by
  simp only [cO, cI, cR, Nat.reduceAdd, Nat.reduceSub]
  rw [pr_pair h hE (a := 0) (b := 1) (by decide) (by decide) rfl rfl, pr_pair h hE (a := 0) (b := 2) (by decide) (by decide) rfl rfl, pr_pair h hE (a := 0) (b := 3) (by decide) (by decide) rfl rfl, pr_pair h hE (a := 0) (b := 4) (by decide) (by decide) rfl rfl, pr_pair h hE (a := 0) (b := 5) (by decide) (by decide) rfl rfl,
    pr_pair h hE (a := 1) (b := 2) (by decide) (by decide) rfl rfl, pr_pair h hE (a := 1) (b := 3) (by decide) (by decide) rfl rfl, pr_pair h hE (a := 1) (b := 4) (by decide) (by decide) rfl rfl, pr_pair h hE (a := 1) (b := 5) (by decide) (by decide) rfl rfl,
    pr_pair h hE (a := 2) (b := 3) (by decide) (by decide) rfl rfl, pr_pair h hE (a := 2) (b := 4) (by decide) (by decide) rfl rfl, pr_pair h hE (a := 2) (b := 5) (by decide) (by decide) rfl rfl,
    pr_pair h hE (a := 3) (b := 4) (by decide) (by decide) rfl rfl, pr_pair h hE (a := 3) (b := 5) (by decide) (by decide) rfl rfl, pr_pair h hE (a := 4) (b := 5) (by decide) (by decide) rfl rfl]
  have d0 := pr_diag h (a := 0) (i := 0) (by decide) rfl
  have d1 := pr_diag h (a := 1) (i := 7) (by decide) rfl
  have d2 := pr_diag h (a := 2) (i := 14) (by decide) rfl
  have d3 := pr_diag h (a := 3) (i := 21) (by decide) rfl
  have d4 := pr_diag h (a := 4) (i := 28) (by decide) rfl
  have d5 := pr_diag h (a := 5) (i := 35) (by decide) rfl
  simp only [Nat.reduceMul, Nat.reduceAdd]
  omega
theorem op_settle {S0 c : Nat} {k : kS} {m : mS} (hc : c < 512) (h : Rel c k m) : ∃ (v : Int32) (m1 : mS), (∀ Q2 : Int32 → mS → Prop, Q2 v m1 → wX6_settle m Q2) ∧ (∀ Q : Int32 → kS → Prop, (∀ k1, Rel (c + 1) k1 m1 → Q v k1) → wX5_settle S0 k Q) := by
  obtain ⟨n, r, d, t, ca, ra, A, QC, ⟨h1, h2, h3, h4, h5, h6, h7, h8⟩, hS, hL1, hL2, hL3, hL4⟩ := h
  have hEl := EB_lt (c := c) (t := t) (d := d) (by omega) hL2 hL3
  obtain ⟨fz, hfz⟩ : ∃ f : Nat → Int32, f = fun j => if j < 36 then 0 else m 20 j := ⟨_, rfl⟩
  -- the reference's last state is told by its own walk
  have key : ∀ (y x : Nat), x + y = 36 → ∀ (Q : Int32 → mS → Prop) (v : Int32) (cn : Nat), cn ≤ x → v = nI (cn + cR m y x) → Q v (mset (mcol m 20 fz) 23 0 0) → wX6_settle_l4 Q (y + 1) (nI x) (nI cn) (mcol m 20 (fun j => if j < x then 0 else m 20 j)) := by
    intro y
    induction y with
    | zero =>
      intro x hxy Q v cn hcx hv hq
      obtain rfl : x = 36 := by omega
      unfold wX6_settle_l4
      refine bi (by decide) ?_
      rintro m1 rfl
      rw [show nI cn = v from hv.symm, ← hfz]
      exact hq
    | succ y ih =>
      intro x hxy Q v cn hcx hv hq
      unfold wX6_settle_l4
      refine bn (by rw [show (36 : Int32) = nI 36 from rfl, q_le (by omega) (by omega)]; omega) ⟨q_in (by omega) (by decide), ?_⟩
      rw [q_cl (by omega), nI_1, nI_1, mcol_s, if_neg (Nat.lt_irrefl _), Int32.add_zero]
      have hu : upd (fun j => if j < x then 0 else m 20 j) x 0 = fun j => if j < x + 1 then 0 else m 20 j := by
        funext j
        by_cases e : j = x
        · rw [e, upd_s, if_pos (by omega)]
        · rw [upd_n _ _ e]
          by_cases e2 : j < x
          · rw [if_pos e2, if_pos (by omega)]
          · rw [if_neg e2, if_neg (by omega)]
      have hv' : v = nI (cn + (tp (m 20 x) + cR m y (x + 1))) := hv
      by_cases hz : m 20 x ≤ 0
      · refine bi hz ⟨q_in (by omega) (by decide), ?_⟩
        rintro m1 rfl
        rw [mset_mcol, hu]
        refine ih (x + 1) (by omega) Q v cn (by omega) ?_ hq
        rw [hv', show tp (m 20 x) = 0 from if_pos hz, Nat.zero_add]
      · refine bn hz ⟨q_in (by omega) (by decide), ?_⟩
        rintro m1 rfl
        rw [mset_mcol, hu]
        refine ih (x + 1) (by omega) Q v (cn + 1) (by omega) ?_ hq
        rw [hv', show tp (m 20 x) = 1 from if_neg hz, ← Nat.add_assoc]
  refine ⟨nI (cR m 36 0), mset (mcol m 20 fz) 23 0 0, fun Q2 hq => ⟨37, ?_⟩, fun Q hq => ⟨7, ?_⟩⟩
  · have := key 36 0 rfl Q2 (nI (cR m 36 0)) 0 (Nat.le_refl _) (by rw [Nat.zero_add]) hq
    have e : mcol m 20 (fun j => if j < 0 then 0 else m 20 j) = m := by
      have : (fun j => if j < 0 then (0 : Int32) else m 20 j) = m 20 := by funext j; rw [if_neg (by omega)]
      rw [this, mcol_id]
    rw [e] at this
    exact this
  · refine sx_out (v := nI (cR m 36 0)) (fun f hf => hq _ ?_) 6 0 0 rfl (by omega) (by rw [cnt_eq h6 (by omega), Nat.zero_add])
    refine ⟨n, r, d, t, ca, ra, A, QC, ⟨h1, h2, h3, h4, h5, ⟨fun a b ha hb => ?_, fun j hj => ?_, h6.2.2⟩, h7, h8⟩, hS, hL1, by omega, hL3, Nat.le_trans hL4 (show c + Gr (m 10) r ≤ c + 1 + Gr (m 10) r by omega)⟩
    · show (kcol k 4 f).1 4 _ - (kcol k 4 f).1 4 _ = mcol m 20 fz 20 _
      rw [kcol_s, mcol_s, hf _ (by omega), hf _ (by omega), hfz]
      simp only
      rw [if_pos (by omega)]; rfl
    · show _ ≤ (mcol m 20 fz 20 j).toInt ∧ (mcol m 20 fz 20 j).toInt ≤ _
      rw [mcol_s, hfz]
      simp only
      rw [if_pos hj]
      have : (0 : Int32).toInt = 0 := rfl
      omega
theorem op_today {S0 c : Nat} {k : kS} {m : mS} (h : Rel c k m) : ∃ (v : Int32) (m1 : mS), (∀ Q2 : Int32 → mS → Prop, Q2 v m1 → wX6_today m Q2) ∧ (∀ Q : Int32 → kS → Prop, (∀ k1, Rel (c + 1) k1 m1 → Q v k1) → wX5_today S0 k Q) := by
  have h' := h
  obtain ⟨n, r, d, t, ca, ra, A, QC, ⟨h1, h2, ⟨d1, d2, d3⟩, h4⟩, -⟩ := h'
  refine ⟨nI d, mset m 23 0 0, fun Q2 hq => ?_, fun Q hq => ?_⟩
  · unfold wX6_today
    rw [d1]
    rintro m1 rfl
    exact hq
  · unfold wX5_today
    rw [d2]
    exact hq k (rel_thr h 0)
