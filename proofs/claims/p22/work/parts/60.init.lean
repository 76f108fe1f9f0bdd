/-! THE START: the constructors, in exact addresses -/
def eR (N : Nat) (g : zF) : Nat → zF → Prop := fun n f => n = N ∧ f = g
theorem e_new {D : zD} {S0 N : Nat} {g : zF} {X : va_E} {H0 H : Heap} {locs : List Loc} {q : Nat} (h : zW D S0 (fun n f' => ∃ f, eR N g q f ∧ f q = none ∧ n = q + 1 ∧ f' = va_up f q (some X)) H0 H locs) : N = q ∧ g N = none ∧ zW D S0 (eR (N + 1) (va_up g N (some X))) H0 H locs := by
  obtain ⟨f0, h1, h2, h3, f, ⟨e1, e2⟩, e3, e4, e5⟩ := h
  subst e1
  subst e2
  exact ⟨rfl, e3, f0, h1, h2, h3, e4, e5⟩
theorem e_put {N : Nat} {g : zF} {a : Nat} {X : Option va_E} (n : Nat) (f : zF) (h : eR N g n f) : eR N (va_up g a X) n (va_up f a X) := ⟨h.1, by rw [h.2]⟩
theorem e_at {N : Nat} {g : zF} {a : Nat} {X : Option va_E} (hg : g a = X) (n : Nat) (f : zF) (h : eR N g n f) : f a = X := by rw [h.2]; exact hg
theorem e_re (B : zF) (a N : Nat) (o o' X : Option va_E) (h : a ≠ N) : va_up (va_up (va_up B a o) N X) a o' = va_up (va_up B N X) a o' := by
  funext q
  by_cases e : q = a
  · rw [e, va_up_self, va_up_self]
  · rw [va_up_ne _ _ e, va_up_ne _ _ e]
    by_cases e2 : q = N
    · rw [e2, va_up_self, va_up_self]
    · rw [va_up_ne _ _ e2, va_up_ne _ _ e2, va_up_ne _ _ e]
theorem e_ob {N : Nat} {g : zF} {a : Nat} {x : va_E} (h : g a = some x) (hN : g N = none) : a ≠ N := fun e => by rw [e, hN] at h; cases h
theorem hin_X0_init_0 : ∀ w ∈ u_ws RX0 TX0 3, w ∈ wsX0_init := by decide +kernel
theorem hin_X2_init_2 : ∀ w ∈ u_ws RX2 TX2 2, w ∈ wsX2_init := by decide +kernel
theorem hin_X5_init_5 : ∀ w ∈ u_ws RX5 TX5 7, w ∈ wsX5_init := by decide +kernel
theorem hin_X5_init_2 : ∀ w ∈ u_ws RX2 TX2 2, w ∈ wsX5_init := by decide +kernel
theorem hin_X5_init_0 : ∀ w ∈ u_ws RX0 TX0 3, w ∈ wsX5_init := by decide +kernel
def gI0 (D : zD) (g : zF) (a N : Nat) : zF := (va_up (va_up (va_up (va_up g N (some (.inl (D.2.1, 36, .inl (fun _ => 0))))) (N + 1) (some (.inl (D.2.1, 6, .inl (fun _ => 0))))) (N + 2) (some (.inl (D.2.1, 6, .inl (fun _ => 0))))) a (some (.inr (0, [.ref N, .ref (N + 1), .ref (N + 2)]))))
set_option maxHeartbeats 8000000 in
set_option maxRecDepth 100000 in
theorem cX0_init_ok (l : Launch) (hlt : l.stackTraces = false) (D : zD) (S0 : Nat) (a N : Nat) (g : zF) (hg : g a = some (.inr (0, [.null, .null, .null]))) : Met l yX0_init wsX0_init { frames := 1, cells := 3, slots := 48, locals := 20 } (zPc D S0 (eR N g) [.ref a]) (va_Qv (fun u => u = (N + 3, gI0 D g a N)) (zB D S0 (fun u => eR u.1 u.2)) (zA S0)) 3 48 (zA S0) := by
  refine zMet (cc := cX0_init) (maxL := 1) (ret := none) (by decide) rfl (Nat.le_of_ble_eq_true rfl) (fun p e s m args below meth c ls hx hb hr hml hown hts hlocks hnm hs hE hW hl => ?_)
  have hs0 : S0 ≤ s.heap.size := hs
  have hin0 := hin_X0_init_0
  replace hl : lv_has ls 1 [(0, .ref a)] := hl
  refine lv_aload_n hx hb dX0_init_0 rfl (lv_at hl 0 rfl) ?_
  refine W.objInit hx hb hown (hts (.methodLink RX0 3 objectInit) (by decide +kernel)) (hts (.instanceMethod objectInit) (by decide +kernel)) (hts (.code objectInit ⟨#[0xb1]⟩ 1 none) (by decide +kernel)) rfl (by rw [hml]; exact hl.1) rfl dX0_init_1 (Nat.le_of_ble_eq_true rfl) (Nat.le_of_ble_eq_true rfl) ?_
  refine W.eq (g2 := F0 m 4 ls []) rfl ?_
  refine lv_aload_n hx hb dX0_init_4 rfl (lv_at hl 0 rfl) ?_
  refine lv_bipush (v := 36) hx hb dX0_init_5 (by decide) ?_
  refine zw_newi (N' := 36) hx hb (hts (.arrayClass .int) (by decide +kernel)) hE.1 hW hs0 (by decide) (by decide) (by decide) (by show _ ≤ _; exact Nat.le_of_ble_eq_true rfl) (by show _ ≤ _; exact Nat.le_of_ble_eq_true rfl) dX0_init_7 (fun q0 H0 hA0 _ => ?_)
  obtain ⟨eq0, hN0, hB0⟩ := e_new hA0
  subst eq0
  have ha0 := e_ob hg hN0
  have hc0 := (va_up_ne g (some (.inl (D.2.1, 36, .inl (fun _ => 0)))) ha0).trans hg
  refine zw_putF (C := RX0) (T := TX0) (N := 3) hx hb hts hin0 tyX0 tyX0_ok nmX0 hown hE.1 hB0 (e_at hc0) rfl 0 (by decide) (hts (.fieldLink RX0 9 "UnionList$Accounts" "debts" "[I") (by decide +kernel)) (fun _ h9 => h9) rfl hnm rfl rfl rfl (Nat.le_of_ble_eq_true rfl) dX0_init_9 e_put (fun H0 locs0 hD0 => ?_)
  replace hD0 : zW D S0 (eR (N + 1) (va_up (va_up g N (some (.inl (D.2.1, 36, .inl (fun _ => 0))))) a (some (.inr (0, [.ref N, .null, .null]))))) s.heap H0 locs0 := hD0
  obtain ⟨B0, eB0⟩ : ∃ y, y = va_up g N (some (.inl (D.2.1, 36, .inl (fun _ => 0)))) := ⟨_, rfl⟩
  rw [← eB0] at hD0
  have hg0 : (va_up B0 a (some (.inr (0, [.ref N, .null, .null])))) a = (some (.inr (0, [.ref N, .null, .null]))) := va_up_self _ _ _
  refine lv_aload_n hx hb dX0_init_12 rfl (lv_at hl 0 rfl) ?_
  refine lv_bipush (v := 6) hx hb dX0_init_13 (by decide) ?_
  refine zw_newi (N' := 6) hx hb (hts (.arrayClass .int) (by decide +kernel)) hE.1 hD0 hs0 (by decide) (by decide) (by decide) (by show _ ≤ _; exact Nat.le_of_ble_eq_true rfl) (by show _ ≤ _; exact Nat.le_of_ble_eq_true rfl) dX0_init_15 (fun q1 H1 hA1 _ => ?_)
  obtain ⟨eq1, hN1, hB1⟩ := e_new hA1
  subst eq1
  have ha1 := e_ob hg0 hN1
  have hc1 := (va_up_ne (va_up B0 a (some (.inr (0, [.ref N, .null, .null])))) (some (.inl (D.2.1, 6, .inl (fun _ => 0)))) ha1).trans hg0
  refine zw_putF (C := RX0) (T := TX0) (N := 3) hx hb hts hin0 tyX0 tyX0_ok nmX0 hown hE.1 hB1 (e_at hc1) rfl 1 (by decide) (hts (.fieldLink RX0 15 "UnionList$Accounts" "homeCopies" "[I") (by decide +kernel)) (fun _ h9 => h9) rfl hnm rfl rfl rfl (Nat.le_of_ble_eq_true rfl) dX0_init_17 e_put (fun H1 locs1 hD1 => ?_)
  replace hD1 : zW D S0 (eR (N + 2) (va_up (va_up (va_up B0 a (some (.inr (0, [.ref N, .null, .null])))) (N + 1) (some (.inl (D.2.1, 6, .inl (fun _ => 0))))) a (some (.inr (0, [.ref N, .ref (N + 1), .null]))))) s.heap H1 locs1 := hD1
  rw [e_re _ _ _ _ _ _ ha1] at hD1
  obtain ⟨B1, eB1⟩ : ∃ y, y = va_up B0 (N + 1) (some (.inl (D.2.1, 6, .inl (fun _ => 0)))) := ⟨_, rfl⟩
  rw [← eB1] at hD1
  have hg1 : (va_up B1 a (some (.inr (0, [.ref N, .ref (N + 1), .null])))) a = (some (.inr (0, [.ref N, .ref (N + 1), .null]))) := va_up_self _ _ _
  refine lv_aload_n hx hb dX0_init_20 rfl (lv_at hl 0 rfl) ?_
  refine lv_bipush (v := 6) hx hb dX0_init_21 (by decide) ?_
  refine zw_newi (N' := 6) hx hb (hts (.arrayClass .int) (by decide +kernel)) hE.1 hD1 hs0 (by decide) (by decide) (by decide) (by show _ ≤ _; exact Nat.le_of_ble_eq_true rfl) (by show _ ≤ _; exact Nat.le_of_ble_eq_true rfl) dX0_init_23 (fun q2 H2 hA2 _ => ?_)
  obtain ⟨eq2, hN2, hB2⟩ := e_new hA2
  subst eq2
  have ha2 := e_ob hg1 hN2
  have hc2 := (va_up_ne (va_up B1 a (some (.inr (0, [.ref N, .ref (N + 1), .null])))) (some (.inl (D.2.1, 6, .inl (fun _ => 0)))) ha2).trans hg1
  refine zw_putF (C := RX0) (T := TX0) (N := 3) hx hb hts hin0 tyX0 tyX0_ok nmX0 hown hE.1 hB2 (e_at hc2) rfl 2 (by decide) (hts (.fieldLink RX0 18 "UnionList$Accounts" "freeLoans" "[I") (by decide +kernel)) (fun _ h9 => h9) rfl hnm rfl rfl rfl (Nat.le_of_ble_eq_true rfl) dX0_init_25 e_put (fun H2 locs2 hD2 => ?_)
  replace hD2 : zW D S0 (eR (N + 3) (va_up (va_up (va_up B1 a (some (.inr (0, [.ref N, .ref (N + 1), .null])))) (N + 2) (some (.inl (D.2.1, 6, .inl (fun _ => 0))))) a (some (.inr (0, [.ref N, .ref (N + 1), .ref (N + 2)]))))) s.heap H2 locs2 := hD2
  rw [e_re _ _ _ _ _ _ ha2] at hD2
  obtain ⟨B2, eB2⟩ : ∃ y, y = va_up B1 (N + 2) (some (.inl (D.2.1, 6, .inl (fun _ => 0)))) := ⟨_, rfl⟩
  rw [← eB2] at hD2
  have hg2 : (va_up B2 a (some (.inr (0, [.ref N, .ref (N + 1), .ref (N + 2)])))) a = (some (.inr (0, [.ref N, .ref (N + 1), .ref (N + 2)]))) := va_up_self _ _ _
  have eG : (va_up B2 a (some (.inr (0, [.ref N, .ref (N + 1), .ref (N + 2)])))) = gI0 D g a N := by
    unfold gI0
    rw [eB2, eB1, eB0]
  rw [eG] at hD2
  exact z_vret (u := (N + 3, gI0 D g a N)) hx hb hr hlocks hD2 rfl dX0_init_28
