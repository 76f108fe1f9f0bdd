/-! the law's own loop, and its end -/
theorem rel_up {c : Nat} {k : kS} {m : mS} (h : Rel c k m) : Rel (c + 1) k m := by
  obtain ⟨n, r, d, t, ca, ra, A, QC, ⟨g1, g2, g3, g4, g5, g6, g7, g8⟩, h2, h3, h4, h5, h6⟩ := h
  exact ⟨n, r, d, t, ca, ra, A, QC, ⟨g1, g2, g3, g4, g5, pA_mono g6 (EB_step c t (x := 0) (by omega)), g7, g8⟩, h2, h3, by omega, h5, by omega⟩
theorem J_mono {m : mS} {n r c c' lo u : Nat} (h : J m n r c lo u) (hc : c ≤ c') : J m n r c' lo u := ⟨h.1, h.2.1, h.2.2.1, JD_mono h.2.2.2 (Nat.le_refl _) hc⟩
def LSt (c : Nat) (k : kS) (m : mS) (n r : Nat) (f2 f3 : Nat → Int32) : Prop := Rel c k m ∧ m 7 0 = nI n ∧ m 15 0 = nI r ∧ n ≤ 20 ∧ r ≤ 20 ∧ J m n r c 0 (i2n (m 19 0)) ∧ HQ m n r f2 f3
theorem ls_ob {c n r : Nat} {k : kS} {m : mS} (h : Rel c k m) (n1 : m 7 0 = nI n) (hn : n ≤ 20) (r1 : m 15 0 = nI r) (hr : r ≤ 40) : ∃ d, Ob k m n r d ∧ m 22 0 = nI d ∧ d ≤ 51200 ∧ (∀ j, j < n → ∃ h, h < 6 ∧ m 0 j = nI h) ∧ (r < 40 → m 13 r = 0) := by
  obtain ⟨n', r', d, t, ca, ra, A, QC, h1, -⟩ := h
  have h2 := h1
  obtain ⟨⟨n1', n2, n3⟩, ⟨r1', r2, r3⟩, ⟨d1, d2, d3⟩, hC, hR, -⟩ := h2
  obtain rfl : n' = n := q_inj (by omega) (by omega) (n1'.symm.trans n1)
  obtain rfl : r' = r := q_inj (by omega) (by omega) (r1'.symm.trans r1)
  exact ⟨d, ⟨ca, ra, A, QC, _, _, h1⟩, d1, d3, fun j hj => (hC.1 j hj).2.2.2.2.2.2.2.2.2.2.1, fun h => (hR.2.1 r' (Nat.le_refl _) h).2.2.1⟩
theorem HQ_cg {m m1 : mS} {n r : Nat} {f2 f3 : Nat → Int32} (h : HQ m n r f2 f3) (e : ∀ a, kc4 a → m1 a = m a) : HQ m1 n r f2 f3 := by
  obtain ⟨h1, h2, h3, h4⟩ := h
  refine ⟨h1, h2, fun j hj => ?_, fun i hi => ?_⟩
  · rw [e 0 (Or.inl rfl), e 1 (Or.inr (Or.inl rfl))]; exact h3 j hj
  · rw [e 8 (Or.inr (Or.inr (Or.inl rfl))), e 9 (Or.inr (Or.inr (Or.inr rfl)))]; exact h4 i hi
theorem row_put {f : Nat → Int32} {n j : Nat} {a b : Int32} (hn : n < 20) (e40 : f 40 = nI n) : (upd (upd (upd f n a) (20 + n) b) 40 (upd (upd f n a) (20 + n) b 40 + 1)) 40 = nI (n + 1) ∧ (j < n → (upd (upd (upd f n a) (20 + n) b) 40 (upd (upd f n a) (20 + n) b 40 + 1)) j = f j ∧ (upd (upd (upd f n a) (20 + n) b) 40 (upd (upd f n a) (20 + n) b 40 + 1)) (20 + j) = f (20 + j)) ∧ (upd (upd (upd f n a) (20 + n) b) 40 (upd (upd f n a) (20 + n) b 40 + 1)) n = a ∧ (upd (upd (upd f n a) (20 + n) b) 40 (upd (upd f n a) (20 + n) b 40 + 1)) (20 + n) = b := by
  refine ⟨?_, fun hj => ⟨?_, ?_⟩, ?_, ?_⟩
  · rw [upd_s, upd_n _ _ (by omega), upd_n _ _ (by omega), e40, nI_1]
  · rw [upd_n _ _ (by omega), upd_n _ _ (by omega), upd_n _ _ (by omega)]
  · rw [upd_n _ _ (by omega), upd_n _ _ (by omega), upd_n _ _ (by omega)]
  · rw [upd_n _ _ (by omega), upd_n _ _ (by omega), upd_s]
  · rw [upd_n _ _ (by omega), upd_s]
section LP
variable {S0 L c n r N kd : Nat} {xs : Nat → Int32} {K : Int32 → (Nat → Int32) → (Nat → Int32) → Nat → kS → Prop} {k : kS} {m : mS} {f2 f3 : Nat → Int32} {x4 x5 x6 x9 : Int32}
theorem l438 (hs : LSt c k m n r f2 f3) (hc : c ≤ 600) (hN : N + 320 ≤ 100000) (hK : K (x4 + 1) f2 f3 (N + 320) k) : wL_law_438 S0 L xs K x4 f2 f3 N k := by
  obtain ⟨hR, n1, r1, hn, hr, hJ, hH⟩ := hs
  obtain ⟨d, ho, -, -, hh, -⟩ := ls_ob hR n1 hn r1 (by omega)
  exact ⟨by omega, by omega, holds_ok ho hJ hn hr hc hh hH (bn (by decide) hK)⟩
theorem l144 (hs : LSt c k m n r f2 f3) (hc : c + 2 ≤ 500) (hN : N + 1121 ≤ 100000) (hkd : kd < 20) (hb : kd = 1 ∨ kd = 2 → r < 20 ∧ ∃ a, a < 6 ∧ lH x6 = nI a ∧ x9 = ob (nb (mReq m r a (lT x6)) r a n)) (hK : ∀ (k' : kS) (m' : mS) (n' r' : Nat) (f2' f3' : Nat → Int32) (c' N' : Nat), c' ≤ c + 2 → N' ≤ N + 1121 → LSt c' k' m' n' r' f2' f3' → K (x4 + 1) f2' f3' N' k') : wL_law_144 S0 L xs K x4 x5 x6 (nI kd) x9 f2 f3 (TELL m n r) N k := by
  have hs' := hs
  obtain ⟨hR, n1, r1, hn, hr, hJ, hH⟩ := hs
  have hX : JX m c := ⟨n, r, n1, r1, hn, by omega, hJ⟩
  have c2 : f2 ((40 : Int32).toNatClampNeg) = nI n := hH.1
  have c3 : f3 ((40 : Int32).toNatClampNeg) = nI r := hH.2.1
  have l3 : (3 : Int32) = nI 3 := rfl
  have l9 : (9 : Int32) = nI 9 := rfl
  unfold wL_law_144
  refine ⟨by omega, by omega, act_ok (by omega) (by omega) hkd hR hX (fun v k1 m1 hk ho => ?_)⟩
  -- a state with the same rows goes on
  have stay : ∀ (k2 : kS) (m2 : mS) (c2' N2 : Nat), c2' ≤ c + 2 → N2 ≤ N + 801 → Rel c2' k2 m2 → m2 7 0 = nI n → m2 15 0 = nI r → J m2 n r c2' 0 (i2n (m2 19 0)) → (∀ a, kc4 a → m2 a = m a) → wL_law_438 S0 L xs K x4 f2 f3 N2 k2 := by
    intro k2 m2 c2' N2 g1 g2 g3 g4 g5 g6 g7
    have hs2 : LSt c2' k2 m2 n r f2 f3 := ⟨g3, g4, g5, hn, hr, g6, HQ_cg hH g7⟩
    exact l438 hs2 (by omega) (by omega) (hK k2 m2 n r f2 f3 c2' (N2 + 320) g1 (by omega) hs2)
  rcases ho with ⟨hv, y, rfl⟩ | ⟨rfl, hp⟩ | ⟨h12, hp⟩ | ⟨h3, h8, hp⟩ | ⟨rfl, hp⟩ | ⟨h9, hp⟩
  · -- refused
    have hneg : ¬ (0 : Int32) ≤ v := by rcases hv with e | e | e <;> rw [e] <;> decide
    obtain ⟨d, ho, -⟩ := ls_ob hk n1 hn r1 (by omega)
    refine bn hneg ⟨by omega, tell_ok ho hn hr hH.1 hH.2.1 ?_⟩
    refine same_ok (f := TELL m n r) (bn (by decide) ?_)
    exact stay k1 (mset m 23 0 y) (c + 1) _ (by omega) (by omega) hk n1 r1 (J_mono hJ (by omega)) (fun a ha => ms_c _ _ _ _ (by unfold kc4 at ha; omega))
  · -- a copy
    obtain ⟨n', -, -, e7, hn20, ev, hX1, a7, a15, a0, a1, a8, a9, a4, a2, a6⟩ := hp
    obtain rfl : n' = n := q_inj (by omega) (by omega) (e7.symm.trans n1)
    have a15' : m1 15 0 = nI r := a15.trans r1
    obtain ⟨d, ho, -⟩ := ls_ob hk a7 (by omega) a15' (by omega)
    have hJ1 := JX_use hX1 a7 (by omega) a15' (by omega)
    have hfr : fr m1 n' = 1 := by
      unfold fr
      rw [if_pos ⟨a2, a6⟩]
    rw [ev, c2]
    refine bi (q_ge0 (by omega)) (bi rfl ⟨by unfold vp_in; decide, bi rfl ⟨by omega, ob_listed ho (Nat.lt_succ_self _) ?_⟩⟩)
    refine bi a4 ⟨by omega, ob_free ho (Nat.lt_succ_self _) ?_⟩
    rw [hfr]
    refine b1 (low_v (N := 6) _ (by omega) (by omega) ⟨q_in (by omega) (by decide), ?_⟩)
    rw [q_cl (by omega), show (20 : Int32) = nI 20 from rfl, nI_add, q_cl (by omega)]
    rintro f175 rfl
    refine low_v (N := 2) _ (by omega) (by omega) ⟨q_in (by omega) (by decide), ?_⟩
    rintro f180 rfl
    refine ⟨by unfold vp_in; decide, by unfold vp_in; decide, ?_⟩
    rintro f184 rfl
    have hs2 : LSt (c + 1) k1 m1 (n' + 1) r (upd (upd (upd f2 n' (lH x6)) (20 + n') (lT x6)) 40 (upd (upd f2 n' (lH x6)) (20 + n') (lT x6) 40 + 1)) f3 := by
      refine ⟨hk, a7, a15', by omega, hr, hJ1, (row_put (j := 0) hn20 hH.1).1, hH.2.1, fun j hj => ?_, fun i hi => ?_⟩
      · rw [a0, a1]
        by_cases e : j = n'
        · rw [e, upd_s, upd_s]
          exact (row_put (j := 0) hn20 hH.1).2.2
        · rw [upd_n _ _ e, upd_n _ _ e]
          have h1 := (row_put (j := j) (a := lH x6) (b := lT x6) hn20 hH.1).2.1 (by omega)
          have h2 := hH.2.2.1 j (by omega)
          exact ⟨h1.1.trans h2.1, h1.2.trans h2.2⟩
      · rw [a8, a9]
        exact hH.2.2.2 i hi
    exact l438 hs2 (by omega) (by omega) (hK _ _ _ _ _ _ _ _ (by omega) (by omega) hs2)
  · -- a request
    obtain ⟨hr20, a, ha, ea, ex9⟩ := hb h12
    obtain ⟨n', r', a', -, e7, hn20, e15, hr40, ha', ea', ev, -, hX1, a7, a15, a0, a1, a8, a9, hnb⟩ := hp
    obtain rfl : n' = n := q_inj (by omega) (by omega) (e7.symm.trans n1)
    obtain rfl : r' = r := q_inj (by omega) (by omega) (e15.symm.trans r1)
    obtain rfl : a' = a := q_inj (by omega) (by omega) (ea'.symm.trans ea)
    have a7' : m1 7 0 = nI n' := a7.trans n1
    obtain ⟨d, ho, -⟩ := ls_ob hk a7' hn a15 (by omega)
    have hJ1 := JX_use hX1 a7' hn a15 (by omega)
    have hs2 : LSt (c + 1) k1 m1 n' (r' + 1) f2 (upd (upd (upd f3 r' (lH x6)) (20 + r') (lT x6)) 40 (upd (upd f3 r' (lH x6)) (20 + r') (lT x6) 40 + 1)) := by
      refine ⟨hk, a7', a15, hn, by omega, hJ1, hH.1, (row_put (j := 0) hr20 hH.2.1).1, fun j hj => ?_, fun i hi => ?_⟩
      · rw [a0, a1]
        exact hH.2.2.1 j hj
      · rw [a8, a9]
        by_cases e : i = r'
        · rw [e, upd_s, upd_s]
          exact (row_put (j := 0) hr20 hH.2.1).2.2
        · rw [upd_n _ _ e, upd_n _ _ e]
          have h1 := (row_put (j := i) (a := lH x6) (b := lT x6) hr20 hH.2.1).2.1 (by omega)
          have h2 := hH.2.2.2 i (by omega)
          exact ⟨h1.1.trans h2.1, h1.2.trans h2.2⟩
    have hgo := l438 (x4 := x4) (S0 := S0) (L := L) (xs := xs) (K := K) (N := N + 601 + 1 + 1) hs2 (by omega) (by omega) (hK _ _ _ _ _ _ _ _ (by omega) (by omega) hs2)
    have n0 : ¬ nI kd = 0 := by
      rcases h12 with rfl | rfl <;> decide
    have n3 : ¬ (3 : Int32) ≤ nI kd := by
      rcases h12 with rfl | rfl <;> decide
    rw [ev, c3]
    refine bi (q_ge0 (by omega)) (bn n0 (bn n3 ⟨by unfold vp_in; decide, bi rfl ⟨by omega, ob_copyOf ho (Nat.lt_succ_self _) ?_⟩⟩))
    have tail : wL_low S0 k1 (x6 >>> (4 &&& 31)) 6 (fun r133 k134 => (vp_in (nI r') 41 ∧ ∀ f136 : Nat → Int32, f136 = upd f3 ((nI r').toNatClampNeg) r133 → (wL_low S0 k134 (x6 >>> (9 &&& 31)) 2 (fun r138 k139 => (vp_in (20 + nI r') 41 ∧ ∀ f141 : Nat → Int32, f141 = upd f136 ((20 + nI r').toNatClampNeg) r138 → (vp_in 40 41 ∧ (vp_in 40 41 ∧ ∀ f145 : Nat → Int32, f145 = upd f141 ((40 : Int32).toNatClampNeg) ((f141 ((40 : Int32).toNatClampNeg)) + 1) → (wL_law_438 S0 L xs K x4 f2 f145 (N + 601 + 1 + 1) k139)))))))) := by
      refine low_v (N := 6) _ (by omega) (by omega) ⟨q_in (by omega) (by decide), ?_⟩
      rw [q_cl (by omega), show (20 : Int32) = nI 20 from rfl, nI_add, q_cl (by omega)]
      rintro f175 rfl
      refine low_v (N := 2) _ (by omega) (by omega) ⟨q_in (by omega) (by decide), ?_⟩
      rintro f180 rfl
      refine ⟨by unfold vp_in; decide, by unfold vp_in; decide, ?_⟩
      rintro f184 rfl
      exact hgo
    rcases hnb with ⟨eb, e10, e11⟩ | ⟨b, eb, e10, e11⟩
    · rw [eb] at ex9
      rw [ex9]
      refine bi e11 ⟨by omega, ob_state ho (Nat.lt_succ_self _) ?_⟩
      rw [e10]
      exact bn (by decide) (bi rfl tail)
    · rw [eb] at ex9
      have hbn := (nb_spec _ _ _ _ _ eb).1
      rw [ex9]
      refine bi e11 ⟨by omega, ob_state ho (Nat.lt_succ_self _) ?_⟩
      rw [e10]
      exact bi (q_ge0 (n := b) (by omega)) (bi rfl tail)
  · -- a quiet call
    obtain ⟨hX1, a7, a15, ak, w, hw, ev⟩ := hp
    have a7' := a7.trans n1
    have a15' := a15.trans r1
    have hJ1 := JX_use hX1 a7' hn a15' (by omega)
    have n0 : ¬ nI kd = 0 := kd_ne (a := kd) (b := 0) (by omega) (by omega) (by omega)
    have n9 : ¬ nI kd = 9 := kd_ne (a := kd) (b := 9) (by omega) (by omega) (by omega)
    rw [ev]
    refine bi (q_ge0 (by omega)) (bn n0 (bi (by rw [l3, q_le (by omega) (by omega)]; exact h3) (bn n9 (bi (by rw [l9, q_le (by omega) (by omega)]; omega) ?_))))
    exact stay k1 m1 (c + 1) _ (by omega) (by omega) hk a7' a15' hJ1 ak
  · -- all is settled
    obtain ⟨⟨hX1, a7, a15, ak, w, hw, ev⟩, hz, -⟩ := hp
    have a7' := a7.trans n1
    have a15' := a15.trans r1
    have hJ1 := JX_use hX1 a7' hn a15' (by omega)
    obtain ⟨d, ho, -⟩ := ls_ob hk a7' hn a15' (by omega)
    obtain ⟨t5, t6, t7⟩ := TELL_D (m := m1) (n := n) (r := r) hz
    rw [ev]
    refine bi (q_ge0 (by omega)) (bn (by decide) (bi (by decide) (bi rfl ⟨by omega, tell_ok ho hn hr hH.1 hH.2.1 ?_⟩)))
    refine bn (by rw [show (15 : Int32) = nI 15 from rfl, q_lt (by omega) (by omega)]; omega) ⟨by unfold vp_in; decide, bi t5 ⟨by unfold vp_in; decide, bi t6 ⟨by unfold vp_in; decide, bi t7 ?_⟩⟩⟩
    obtain ⟨v2, m2, -, hq2, ⟨hX2, b7, b15, bk, -⟩, -, hv2⟩ := oj_settle (S0 := S0) (cc := c + 1) (c := c + 1) (by omega) hk hX1
    refine hq2 _ (fun k2 hk2 => bi (hv2 hz) ?_)
    have hJ2 := JX_use hX2 (b7.trans a7') hn (b15.trans a15') (by omega)
    exact stay k2 m2 (c + 1 + 1) _ (by omega) (by omega) hk2 (b7.trans a7') (b15.trans a15') hJ2 (fun a ha => (bk a ha).trans (ak a ha))
  · -- days
    obtain ⟨n', r', e7, a7, e15, a15, hn', hr40, hJ0, hJ1, hG, ⟨w, hw, ev⟩, ⟨d, P', ed, ed1, hP, hdP⟩, ak⟩ := hp
    obtain rfl : n' = n := q_inj (by omega) (by omega) (e7.symm.trans n1)
    obtain rfl : r' = r := q_inj (by omega) (by omega) (e15.symm.trans r1)
    obtain ⟨d2, ho, -⟩ := ls_ob hk a7 hn a15 (by omega)
    have n0 : ¬ nI kd = 0 := kd_ne (a := kd) (b := 0) (by omega) (by omega) (by omega)
    have n9 : ¬ nI kd = 9 := kd_ne (a := kd) (b := 9) (by omega) (by omega) (by omega)
    rw [ev]
    refine bi (q_ge0 (by omega)) (bn n0 (bi (by rw [l3, q_le (by omega) (by omega)]; omega) (bn n9 (bn (by rw [l9, q_le (by omega) (by omega)]; omega) ⟨by omega, tell_ok ho hn hr hH.1 hH.2.1 ?_⟩))))
    have t1 : TELL m1 n' r' ((0 : Int32).toNatClampNeg) = nI (d + P') := (TELL_0 m1 n' r').trans ed1
    have t0 : TELL m n' r' ((0 : Int32).toNatClampNeg) = nI d := (TELL_0 m n' r').trans ed
    rw [t1, t0]
    refine ⟨by unfold vp_in; decide, by unfold vp_in; decide, bn (by rw [q_le (by omega) (by omega)]; omega) ⟨by unfold vp_in; decide, ?_⟩⟩
    refine goes_ok hJ hJ1 hn hr (by omega) (by omega) hG c3 (bn (by decide) ?_)
    exact stay k1 m1 (c + 1) _ (by omega) (by omega) hk a7 a15 (J_mono hJ1 (by omega)) ak
theorem l95 (hs : LSt c k m n r f2 f3) (hc : c + 2 ≤ 500) (hN : N + 1341 ≤ 100000) (hkd : kd < 20) (h20 : kd = 1 ∨ kd = 2 → r < 20) (hK : ∀ (k' : kS) (m' : mS) (n' r' : Nat) (f2' f3' : Nat → Int32) (c' N' : Nat), c' ≤ c + 2 → N' ≤ N + 1341 → LSt c' k' m' n' r' f2' f3' → K (x4 + 1) f2' f3' N' k') : wL_law_95 S0 L xs K x4 x5 x6 (nI kd) f2 f3 N k := by
  have hs' := hs
  obtain ⟨hR, n1, r1, hn, hr, hJ, hH⟩ := hs
  obtain ⟨d, ho, -, -, hh, h13⟩ := ls_ob hR n1 hn r1 (by omega)
  obtain ⟨a, ha, ea⟩ := lowv_rng (x6 >>> (4 &&& 31)) (N := 6) (by omega) (by omega)
  unfold wL_law_95
  refine ⟨by omega, by omega, tell_ok ho hn hr hH.1 hH.2.1 ?_⟩
  have asks : (kd = 1 ∨ kd = 2) → wL_low S0 k (x6 >>> (4 &&& 31)) 6 (fun r68 k69 => (wL_low S0 k69 (x6 >>> (9 &&& 31)) 2 (fun r70 k71 => (N + 200 + 20 ≤ 100000 ∧ (wL_first S0 k71 f2 r68 r70 (fun r73 k74 => (wL_law_144 S0 L xs K x4 x5 x6 (nI kd) r73 f2 f3 (TELL m n r) (N + 200 + 20) k74))))))) := by
    intro h12
    refine low_v (N := 6) _ (by omega) (by omega) (low_v (N := 2) _ (by omega) (by omega) ⟨by omega, ?_⟩)
    rw [ea]
    refine first_ok ho hn hH ha (h13 (by omega)) hh ?_
    exact l144 hs' hc (by omega) hkd (fun h => ⟨h20 h, a, ha, ea, rfl⟩) (fun k' m' n' r' f2' f3' c' N' g1 g2 g3 => hK k' m' n' r' f2' f3' c' N' g1 (by omega) g3)
  refine ⟨fun e => asks (Or.inl (q_inj (by omega) (by omega) (show nI kd = nI 1 from e))), fun e1 => ⟨fun e => asks (Or.inr (q_inj (by omega) (by omega) (show nI kd = nI 2 from e))), fun e2 => ?_⟩⟩
  refine l144 hs' hc (by omega) hkd (fun h => ?_) (fun k' m' n' r' f2' f3' c' N' g1 g2 g3 => hK k' m' n' r' f2' f3' c' N' g1 (by omega) g3)
  rcases h with rfl | rfl
  · exact absurd rfl e1
  · exact absurd rfl e2
theorem l71 (hs : LSt c k m n r f2 f3) (hc : c + 2 ≤ 500) (hN : N + 1341 ≤ 100000) (hkd : kd < 20) (hK : ∀ (k' : kS) (m' : mS) (n' r' : Nat) (f2' f3' : Nat → Int32) (c' N' : Nat), c' ≤ c + 2 → N' ≤ N + 1341 → LSt c' k' m' n' r' f2' f3' → K (x4 + 1) f2' f3' N' k') : wL_law_71 S0 L xs K x4 x5 x6 (nI kd) f2 f3 N k := by
  have c3 : f3 ((40 : Int32).toNatClampNeg) = nI r := hs.2.2.2.2.2.2.2.1
  have hr := hs.2.2.2.2.1
  unfold wL_law_71
  rw [c3]
  refine ⟨by omega, fun e => ?_, fun e => ⟨fun e3 => ?_, fun e3 => ⟨by unfold vp_in; decide, fun e20 => ?_, fun e20 => ?_⟩⟩⟩
  · rw [show (0 : Int32) = nI 0 from rfl, q_le (by omega) (by omega)] at e
    exact l95 hs hc hN hkd (fun h => absurd h (by omega)) hK
  · rw [show (3 : Int32) = nI 3 from rfl, q_le (by omega) (by omega)] at e3
    exact l95 hs hc hN hkd (fun h => absurd h (by omega)) hK
  · exact l95 (kd := 10) hs hc hN (by omega) (fun h => absurd h (by omega)) hK
  · have : r ≠ 20 := fun h => e20 (by rw [h]; rfl)
    exact l95 hs hc hN hkd (fun _ => by omega) hK
end LP
section LE
variable {S0 L c n r N : Nat} {xs : Nat → Int32} {k : kS} {m : mS} {f2 f3 : Nat → Int32} {x4 : Int32}
theorem ob_self {d : Nat} (h : Ob k m n r d) : m 20 0 = 0 := by
  obtain ⟨ca, ra, A, QC, U, E, ⟨-, -, -, hC, hR, hA, -⟩⟩ := h
  have h1 := hA.1 0 0 (by omega) (by omega)
  rw [Int32.sub_self] at h1
  exact h1.symm
theorem l455 (hs : LSt c k m n r f2 f3) (hN : N + 1300 ≤ 100000) : wL_law_455 S0 L xs x4 f2 f3 N k := by
  obtain ⟨hR, n1, r1, hn, hr, hJ, hH⟩ := hs
  obtain ⟨d, ho, -⟩ := ls_ob hR n1 hn r1 (by omega)
  have ho' := ho
  obtain ⟨ca, ra, A, QC, U, E, ⟨⟨n1', n2, n3⟩, ⟨r1', r2, r3⟩, -, hC, hR', hA, -⟩⟩ := ho'
  have hcn : ∀ i, n ≤ i → i < 20 → k.2.1 0 i = none := fun i h1 h2 => (hC.2 i h1 h2).1
  have hrn : ∀ i, r ≤ i → i < 40 → k.2.1 1 i = none := fun i h1 h2 => (hR'.2.1 i h1 h2).1
  unfold wL_law_455
  refine ⟨by omega, by omega, ?_⟩
  have s1 : ∀ {Q : Int32 → kS → Prop}, Q (-3) k → wL_added S0 k 6 0 Q := fun q => by
    unfold wL_added wX5_addCopy
    exact sx_house_n (Or.inr (by decide)) (b0 ⟨by decide, Or.inl ⟨rfl, q⟩⟩)
  have s2 : ∀ {Q : Int32 → kS → Prop}, Q (-3) k → wL_asked S0 k 0 8 Q := fun q => by
    unfold wL_asked wX5_request
    exact sx_house_y (h := 0) (by omega) (b1 (sx_title_n (Or.inr (by decide)) (b0 ⟨by decide, Or.inl ⟨rfl, q⟩⟩)))
  have s3 : ∀ {Q : Int32 → kS → Prop}, Q (-2) k → wL_harmed S0 k (-1) Q := fun q => by
    unfold wL_harmed wX5_harm
    exact sx_copy_n n3 (Or.inl (by decide)) hcn (Or.inl ⟨rfl, q⟩)
  have s4 : ∀ {Q : Int32 → kS → Prop}, Q (-2) k → wL_looked S0 k 20 Q := fun q => by
    unfold wL_looked wX5_look
    exact sx_copy_n n3 (Or.inr (by rw [show (20 : Int32) = nI 20 from rfl, q_le (by omega) (by omega)]; exact n3)) hcn (Or.inl ⟨rfl, q⟩)
  have s5 : ∀ {Q : Int32 → kS → Prop}, Q (-2) k → wL_mended S0 k (-1) Q := fun q => by
    unfold wL_mended wX5_mend
    exact sx_copy_n n3 (Or.inl (by decide)) hcn (Or.inl ⟨rfl, q⟩)
  have s6 : ∀ {Q : Int32 → kS → Prop}, Q (-2) k → wL_renewed S0 k 40 Q := fun q => by
    unfold wL_renewed wX5_renew
    exact sx_req_n r3 (Or.inr (by rw [show (40 : Int32) = nI 40 from rfl, q_le (by omega) (by omega)]; exact r3)) hrn (Or.inl ⟨rfl, q⟩)
  have s7 : ∀ {Q : Int32 → kS → Prop}, Q (-2) k → wL_recalled S0 k (-1) Q := fun q => by
    unfold wL_recalled wX5_recall
    exact sx_req_n r3 (Or.inl (by decide)) hrn (Or.inl ⟨rfl, q⟩)
  have s8 : ∀ {Q : Int32 → kS → Prop}, Q (-2) k → wL_back S0 k 40 Q := fun q => by
    unfold wL_back wX5_sendBack
    exact sx_req_n r3 (Or.inr (by rw [show (40 : Int32) = nI 40 from rfl, q_le (by omega) (by omega)]; exact r3)) hrn (Or.inl ⟨rfl, q⟩)
  have s9 : ∀ {Q : Int32 → kS → Prop}, Q (-3) k → wL_passed S0 k 0 Q := fun q => by
    unfold wL_passed wX5_pass
    exact ⟨fun _ => ⟨by decide, rfl, q⟩, fun e => absurd (by decide) e⟩
  have s10 : ∀ {Q : Int32 → kS → Prop}, Q (-3) k → wL_passed S0 k 101 Q := fun q => by
    unfold wL_passed wX5_pass
    exact ⟨fun e => absurd e (by decide), fun _ => ⟨fun e => absurd e (by decide), fun _ => ⟨by decide, rfl, q⟩⟩⟩
  refine s1 (bi rfl ⟨by omega, s2 (bi rfl ⟨by omega, s3 (bi rfl ⟨by omega, s4 (bi rfl ⟨by omega, s5 (bi rfl ⟨by omega, s6 (bi rfl ⟨by omega, s7 (bi rfl ⟨by omega, s8 (bi rfl ⟨by omega, s9 (bi rfl ⟨by omega, s10 (bi rfl ⟨by omega, ob_owed_n (bi rfl ⟨by omega, ?_⟩)⟩)⟩)⟩)⟩)⟩)⟩)⟩)⟩)⟩)⟩)
  exact ob_owed (a := 0) (b := 0) ho (by omega) (by omega) (bi (ob_self ho) trivial)
set_option maxRecDepth 100000 in
theorem law_all {L : Nat} {xs : Nat → Int32} (hL : L ≤ 260) : ∀ (y e c N : Nat) (k : kS) (m : mS) (n r : Nat) (f2 f3 : Nat → Int32), e + y = 60 → c ≤ 2 * e → N ≤ 2000 + 1341 * e → LSt c k m n r f2 f3 → wL_law_21 S0 L xs (y + 1) (nI e) f2 f3 N k := by
  intro y
  induction y with
  | zero =>
    intro e c N k m n r f2 f3 he hc hN hs
    obtain rfl : e = 60 := by omega
    unfold wL_law_21
    exact ⟨by omega, bi (by decide) (l455 hs (by omega))⟩
  | succ y ih =>
    intro e c N k m n r f2 f3 he hc hN hs
    unfold wL_law_21
    rw [show (2 : Int32) = nI 2 from rfl, nI_ml, nI_1]
    refine ⟨by omega, bn (by rw [show (60 : Int32) = nI 60 from rfl, q_le (by omega) (by omega)]; omega) (cell_ok hL (by omega) (fun v1 => cell_ok hL (by omega) (fun v2 => ?_)))⟩
    have hK : ∀ (k' : kS) (m' : mS) (n' r' : Nat) (f2' f3' : Nat → Int32) (c' N' : Nat), c' ≤ c + 2 → N' ≤ N + 1341 → LSt c' k' m' n' r' f2' f3' → wL_law_21 S0 L xs (y + 1) (nI e + 1) f2' f3' N' k' := by
      intro k' m' n' r' f2' f3' c' N' g1 g2 g3
      rw [nI_1]
      exact ih (e + 1) c' N' k' m' n' r' f2' f3' (by omega) (by omega) (by omega) g3
    refine ⟨fun _ => ?_, fun _ => ?_⟩
    · obtain ⟨w, hw, ew⟩ := lowv_rng (v1 >>> (3 &&& 31)) (N := 15) (by omega) (by omega)
      refine low_v (N := 15) _ (by omega) (by omega) ?_
      rw [ew]
      exact l71 (kd := w) hs (by omega) (by omega) (by omega) hK
    · exact l71 (kd := 0) hs (by omega) (by omega) (by omega) hK
end LE
