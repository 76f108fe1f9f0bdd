/-! THE START: the constructors, in exact addresses -/
def eR (N : Nat) (g : zF) : Nat → zF → Prop := fun n f => n = N ∧ f = g
theorem e_new {D : zD} {S0 N : Nat} {g : zF} {X : va_E} {H0 H : Heap} {locs : List Loc} {q : Nat} (h : zW D S0 (fun n f' => ∃ f, eR N g q f ∧ f q = none ∧ n = q + 1 ∧ f' = va_up f q (some X)) H0 H locs) : N = q ∧ g N = none ∧ zW D S0 (eR (N + 1) (va_up g N (some X))) H0 H locs := by
  obtain ⟨f0, h1, h2, h3, f, ⟨e1, e2⟩, e3, e4, e5⟩ := h
  subst e1
  subst e2
  exact ⟨rfl, e3, f0, h1, h2, h3, e4, e5⟩
theorem e_put {N : Nat} {g : zF} {a : Nat} {X : Option va_E} (n : Nat) (f : zF) (h : eR N g n f) : eR N (va_up g a X) n (va_up f a X) := ⟨h.1, by rw [h.2]⟩
theorem e_at {N : Nat} {g : zF} {a : Nat} {X : Option va_E} (hg : g a = X) (n : Nat) (f : zF) (h : eR N g n f) : f a = X := by rw [h.2]; exact hg
theorem e_re (B : zF) (a N : Nat) (o o' X : Option va_E) (h : a ≠ N) : va_up (va_up (va_up B a o) N X) a o' = va_up (va_up B N X) a o' := by
  funext q
  by_cases e : q = a
  · rw [e, va_up_self, va_up_self]
  · rw [va_up_ne _ _ e, va_up_ne _ _ e]
    by_cases e2 : q = N
    · rw [e2, va_up_self, va_up_self]
    · rw [va_up_ne _ _ e2, va_up_ne _ _ e2, va_up_ne _ _ e]
theorem e_ob {N : Nat} {g : zF} {a : Nat} {x : va_E} (h : g a = some x) (hN : g N = none) : a ≠ N := fun e => by rw [e, hN] at h; cases h
theorem hin_X0_init_0 : ∀ w ∈ u_ws RX0 TX0 3, w ∈ wsX0_init := by decide +kernel
theorem hin_X2_init_2 : ∀ w ∈ u_ws RX2 TX2 2, w ∈ wsX2_init := by decide +kernel
theorem hin_X5_init_5 : ∀ w ∈ u_ws RX5 TX5 7, w ∈ wsX5_init := by decide +kernel
theorem hin_X5_init_2 : ∀ w ∈ u_ws RX2 TX2 2, w ∈ wsX5_init := by decide +kernel
theorem hin_X5_init_0 : ∀ w ∈ u_ws RX0 TX0 3, w ∈ wsX5_init := by decide +kernel
theorem hin_X6_init_6 : ∀ w ∈ u_ws RX6 TX6 24, w ∈ wsX6_init := by decide +kernel
def gI0 (D : zD) (g : zF) (a N : Nat) : zF := (va_up (va_up (va_up (va_up g N (some (.inl (D.2.1, 36, .inl (fun _ => 0))))) (N + 1) (some (.inl (D.2.1, 6, .inl (fun _ => 0))))) (N + 2) (some (.inl (D.2.1, 6, .inl (fun _ => 0))))) a (some (.inr (0, [.ref N, .ref (N + 1), .ref (N + 2)]))))
set_option maxHeartbeats 8000000 in
set_option maxRecDepth 100000 in
theorem cX0_init_ok (l : Launch) (hlt : l.stackTraces = false) (D : zD) (S0 : Nat) (a N : Nat) (g : zF) (hg : g a = some (.inr (0, [.null, .null, .null]))) : Met l yX0_init wsX0_init { frames := 1, cells := 3, slots := 48, locals := 20 } (zPc D S0 (eR N g) [.ref a]) (va_Qv (fun u => u = (N + 3, gI0 D g a N)) (zB D S0 (fun u => eR u.1 u.2)) (zA S0)) 3 48 (zA S0) := by
  refine zMet (cc := cX0_init) (maxL := 1) (ret := none) (by decide) rfl (Nat.le_of_ble_eq_true rfl) (fun p e s m args below meth c ls hx hb hr hml hown hts hlocks hnm hs hE hW hl => ?_)
  have hs0 : S0 ≤ s.heap.size := hs
  have hin0 := hin_X0_init_0
  replace hl : lv_has ls 1 [(0, .ref a)] := hl
  refine lv_aload_n hx hb dX0_init_0 rfl (lv_at hl 0 rfl) ?_
  refine W.objInit hx hb hown (hts (.methodLink RX0 3 objectInit) (by decide +kernel)) (hts (.instanceMethod objectInit) (by decide +kernel)) (hts (.code objectInit ⟨#[0xb1]⟩ 1 none) (by decide +kernel)) rfl (by rw [hml]; exact hl.1) rfl dX0_init_1 (Nat.le_of_ble_eq_true rfl) (Nat.le_of_ble_eq_true rfl) ?_
  refine W.eq (g2 := F0 m 4 ls []) rfl ?_
  refine lv_aload_n hx hb dX0_init_4 rfl (lv_at hl 0 rfl) ?_
  refine lv_bipush (v := 36) hx hb dX0_init_5 (by decide) ?_
  refine zw_newi (N' := 36) hx hb (hts (.arrayClass .int) (by decide +kernel)) hE.1 hW hs0 (by decide) (by decide) (by decide) (by show _ ≤ _; exact Nat.le_of_ble_eq_true rfl) (by show _ ≤ _; exact Nat.le_of_ble_eq_true rfl) dX0_init_7 (fun q0 H0 hA0 _ => ?_)
  obtain ⟨eq0, hN0, hB0⟩ := e_new hA0
  subst eq0
  have ha0 := e_ob hg hN0
  have hc0 := (va_up_ne g (some (.inl (D.2.1, 36, .inl (fun _ => 0)))) ha0).trans hg
  refine zw_putF (C := RX0) (T := TX0) (N := 3) hx hb hts hin0 tyX0 tyX0_ok nmX0 hown hE.1 hB0 (e_at hc0) rfl 0 (by decide) (hts (.fieldLink RX0 9 "UnionList$Accounts" "debts" "[I") (by decide +kernel)) (fun _ h9 => h9) rfl hnm rfl rfl rfl (Nat.le_of_ble_eq_true rfl) dX0_init_9 e_put (fun H0 locs0 hD0 => ?_)
  replace hD0 : zW D S0 (eR (N + 1) (va_up (va_up g N (some (.inl (D.2.1, 36, .inl (fun _ => 0))))) a (some (.inr (0, [.ref N, .null, .null]))))) s.heap H0 locs0 := hD0
  obtain ⟨B0, eB0⟩ : ∃ y, y = va_up g N (some (.inl (D.2.1, 36, .inl (fun _ => 0)))) := ⟨_, rfl⟩
  rw [← eB0] at hD0
  have hg0 : (va_up B0 a (some (.inr (0, [.ref N, .null, .null])))) a = (some (.inr (0, [.ref N, .null, .null]))) := va_up_self _ _ _
  refine lv_aload_n hx hb dX0_init_12 rfl (lv_at hl 0 rfl) ?_
  refine lv_bipush (v := 6) hx hb dX0_init_13 (by decide) ?_
  refine zw_newi (N' := 6) hx hb (hts (.arrayClass .int) (by decide +kernel)) hE.1 hD0 hs0 (by decide) (by decide) (by decide) (by show _ ≤ _; exact Nat.le_of_ble_eq_true rfl) (by show _ ≤ _; exact Nat.le_of_ble_eq_true rfl) dX0_init_15 (fun q1 H1 hA1 _ => ?_)
  obtain ⟨eq1, hN1, hB1⟩ := e_new hA1
  subst eq1
  have ha1 := e_ob hg0 hN1
  have hc1 := (va_up_ne (va_up B0 a (some (.inr (0, [.ref N, .null, .null])))) (some (.inl (D.2.1, 6, .inl (fun _ => 0)))) ha1).trans hg0
  refine zw_putF (C := RX0) (T := TX0) (N := 3) hx hb hts hin0 tyX0 tyX0_ok nmX0 hown hE.1 hB1 (e_at hc1) rfl 1 (by decide) (hts (.fieldLink RX0 15 "UnionList$Accounts" "homeCopies" "[I") (by decide +kernel)) (fun _ h9 => h9) rfl hnm rfl rfl rfl (Nat.le_of_ble_eq_true rfl) dX0_init_17 e_put (fun H1 locs1 hD1 => ?_)
  replace hD1 : zW D S0 (eR (N + 2) (va_up (va_up (va_up B0 a (some (.inr (0, [.ref N, .null, .null])))) (N + 1) (some (.inl (D.2.1, 6, .inl (fun _ => 0))))) a (some (.inr (0, [.ref N, .ref (N + 1), .null]))))) s.heap H1 locs1 := hD1
  rw [e_re _ _ _ _ _ _ ha1] at hD1
  obtain ⟨B1, eB1⟩ : ∃ y, y = va_up B0 (N + 1) (some (.inl (D.2.1, 6, .inl (fun _ => 0)))) := ⟨_, rfl⟩
  rw [← eB1] at hD1
  have hg1 : (va_up B1 a (some (.inr (0, [.ref N, .ref (N + 1), .null])))) a = (some (.inr (0, [.ref N, .ref (N + 1), .null]))) := va_up_self _ _ _
  refine lv_aload_n hx hb dX0_init_20 rfl (lv_at hl 0 rfl) ?_
  refine lv_bipush (v := 6) hx hb dX0_init_21 (by decide) ?_
  refine zw_newi (N' := 6) hx hb (hts (.arrayClass .int) (by decide +kernel)) hE.1 hD1 hs0 (by decide) (by decide) (by decide) (by show _ ≤ _; exact Nat.le_of_ble_eq_true rfl) (by show _ ≤ _; exact Nat.le_of_ble_eq_true rfl) dX0_init_23 (fun q2 H2 hA2 _ => ?_)
  obtain ⟨eq2, hN2, hB2⟩ := e_new hA2
  subst eq2
  have ha2 := e_ob hg1 hN2
  have hc2 := (va_up_ne (va_up B1 a (some (.inr (0, [.ref N, .ref (N + 1), .null])))) (some (.inl (D.2.1, 6, .inl (fun _ => 0)))) ha2).trans hg1
  refine zw_putF (C := RX0) (T := TX0) (N := 3) hx hb hts hin0 tyX0 tyX0_ok nmX0 hown hE.1 hB2 (e_at hc2) rfl 2 (by decide) (hts (.fieldLink RX0 18 "UnionList$Accounts" "freeLoans" "[I") (by decide +kernel)) (fun _ h9 => h9) rfl hnm rfl rfl rfl (Nat.le_of_ble_eq_true rfl) dX0_init_25 e_put (fun H2 locs2 hD2 => ?_)
  replace hD2 : zW D S0 (eR (N + 3) (va_up (va_up (va_up B1 a (some (.inr (0, [.ref N, .ref (N + 1), .null])))) (N + 2) (some (.inl (D.2.1, 6, .inl (fun _ => 0))))) a (some (.inr (0, [.ref N, .ref (N + 1), .ref (N + 2)]))))) s.heap H2 locs2 := hD2
  rw [e_re _ _ _ _ _ _ ha2] at hD2
  obtain ⟨B2, eB2⟩ : ∃ y, y = va_up B1 (N + 2) (some (.inl (D.2.1, 6, .inl (fun _ => 0)))) := ⟨_, rfl⟩
  rw [← eB2] at hD2
  have hg2 : (va_up B2 a (some (.inr (0, [.ref N, .ref (N + 1), .ref (N + 2)])))) a = (some (.inr (0, [.ref N, .ref (N + 1), .ref (N + 2)]))) := va_up_self _ _ _
  have eG : (va_up B2 a (some (.inr (0, [.ref N, .ref (N + 1), .ref (N + 2)])))) = gI0 D g a N := by
    unfold gI0
    rw [eB2, eB1, eB0]
  rw [eG] at hD2
  exact z_vret (u := (N + 3, gI0 D g a N)) hx hb hr hlocks hD2 rfl dX0_init_28
def gI6 (D : zD) (g : zF) (a N : Nat) : zF := (va_up (va_up (va_up (va_up (va_up (va_up (va_up (va_up (va_up (va_up (va_up (va_up (va_up (va_up (va_up (va_up (va_up (va_up (va_up (va_up g N (some (.inl (D.2.1, 20, .inl (fun _ => 0))))) (N + 1) (some (.inl (D.2.1, 20, .inl (fun _ => 0))))) (N + 2) (some (.inl (D.2.1, 20, .inl (fun _ => 0))))) (N + 3) (some (.inl (D.2.1, 20, .inl (fun _ => 0))))) (N + 4) (some (.inl (D.2.1, 20, .inl (fun _ => 0))))) (N + 5) (some (.inl (D.2.1, 20, .inl (fun _ => 0))))) (N + 6) (some (.inl (D.2.1, 20, .inl (fun _ => 0))))) (N + 7) (some (.inl (D.2.1, 40, .inl (fun _ => 0))))) (N + 8) (some (.inl (D.2.1, 40, .inl (fun _ => 0))))) (N + 9) (some (.inl (D.2.1, 40, .inl (fun _ => 0))))) (N + 10) (some (.inl (D.2.1, 40, .inl (fun _ => 0))))) (N + 11) (some (.inl (D.2.1, 40, .inl (fun _ => 0))))) (N + 12) (some (.inl (D.2.1, 40, .inl (fun _ => 0))))) (N + 13) (some (.inl (D.2.1, 40, .inl (fun _ => 0))))) (N + 14) (some (.inl (D.2.1, 4000, .inl (fun _ => 0))))) (N + 15) (some (.inl (D.2.1, 4000, .inl (fun _ => 0))))) (N + 16) (some (.inl (D.2.1, 4000, .inl (fun _ => 0))))) (N + 17) (some (.inl (D.2.1, 36, .inl (fun _ => 0))))) (N + 18) (some (.inl (D.2.1, 6, .inl (fun _ => 0))))) a (some (.inr (6, [.ref N, .ref (N + 1), .ref (N + 2), .ref (N + 3), .ref (N + 4), .ref (N + 5), .ref (N + 6), .int 0, .ref (N + 7), .ref (N + 8), .ref (N + 9), .ref (N + 10), .ref (N + 11), .ref (N + 12), .ref (N + 13), .int 0, .ref (N + 14), .ref (N + 15), .ref (N + 16), .int 0, .ref (N + 17), .ref (N + 18), .int 0, .int 0]))))
set_option maxHeartbeats 8000000 in
set_option maxRecDepth 100000 in
theorem cX6_init_ok (l : Launch) (hlt : l.stackTraces = false) (D : zD) (S0 : Nat) (a N : Nat) (g : zF) (hg : g a = some (.inr (6, [.null, .null, .null, .null, .null, .null, .null, .int 0, .null, .null, .null, .null, .null, .null, .null, .int 0, .null, .null, .null, .int 0, .null, .null, .int 0, .int 0]))) : Met l yX6_init wsX6_init { frames := 1, cells := 19, slots := 12462, locals := 20 } (zPc D S0 (eR N g) [.ref a]) (va_Qv (fun u => u = (N + 19, gI6 D g a N)) (zB D S0 (fun u => eR u.1 u.2)) (zA S0)) 19 12462 (zA S0) := by
  refine zMet (cc := cX6_init) (maxL := 1) (ret := none) (by decide) rfl (Nat.le_of_ble_eq_true rfl) (fun p e s m args below meth c ls hx hb hr hml hown hts hlocks hnm hs hE hW hl => ?_)
  have hs0 : S0 ≤ s.heap.size := hs
  have hin0 := hin_X6_init_6
  replace hl : lv_has ls 1 [(0, .ref a)] := hl
  refine lv_aload_n hx hb dX6_init_0 rfl (lv_at hl 0 rfl) ?_
  refine W.objInit hx hb hown (hts (.methodLink RX6 1 objectInit) (by decide +kernel)) (hts (.instanceMethod objectInit) (by decide +kernel)) (hts (.code objectInit ⟨#[0xb1]⟩ 1 none) (by decide +kernel)) rfl (by rw [hml]; exact hl.1) rfl dX6_init_1 (Nat.le_of_ble_eq_true rfl) (Nat.le_of_ble_eq_true rfl) ?_
  refine W.eq (g2 := F0 m 4 ls []) rfl ?_
  refine lv_aload_n hx hb dX6_init_4 rfl (lv_at hl 0 rfl) ?_
  refine lv_bipush (v := 20) hx hb dX6_init_5 (by decide) ?_
  refine zw_newi (N' := 20) hx hb (hts (.arrayClass .int) (by decide +kernel)) hE.1 hW hs0 (by decide) (by decide) (by decide) (by show _ ≤ _; exact Nat.le_of_ble_eq_true rfl) (by show _ ≤ _; exact Nat.le_of_ble_eq_true rfl) dX6_init_7 (fun q0 H0 hA0 _ => ?_)
  obtain ⟨eq0, hN0, hB0⟩ := e_new hA0
  subst eq0
  have ha0 := e_ob hg hN0
  have hc0 := (va_up_ne g (some (.inl (D.2.1, 20, .inl (fun _ => 0)))) ha0).trans hg
  refine zw_putF (C := RX6) (T := TX6) (N := 24) hx hb hts hin0 tyX6 tyX6_ok nmX6 hown hE.1 hB0 (e_at hc0) rfl 0 (by decide) (hts (.fieldLink RX6 7 "UnionListModel" "home" "[I") (by decide +kernel)) (fun _ h9 => h9) rfl hnm rfl rfl rfl (Nat.le_of_ble_eq_true rfl) dX6_init_9 e_put (fun H0 locs0 hD0 => ?_)
  replace hD0 : zW D S0 (eR (N + 1) (va_up (va_up g N (some (.inl (D.2.1, 20, .inl (fun _ => 0))))) a (some (.inr (6, [.ref N, .null, .null, .null, .null, .null, .null, .int 0, .null, .null, .null, .null, .null, .null, .null, .int 0, .null, .null, .null, .int 0, .null, .null, .int 0, .int 0]))))) s.heap H0 locs0 := hD0
  obtain ⟨B0, eB0⟩ : ∃ y, y = va_up g N (some (.inl (D.2.1, 20, .inl (fun _ => 0)))) := ⟨_, rfl⟩
  rw [← eB0] at hD0
  have hg0 : (va_up B0 a (some (.inr (6, [.ref N, .null, .null, .null, .null, .null, .null, .int 0, .null, .null, .null, .null, .null, .null, .null, .int 0, .null, .null, .null, .int 0, .null, .null, .int 0, .int 0])))) a = (some (.inr (6, [.ref N, .null, .null, .null, .null, .null, .null, .int 0, .null, .null, .null, .null, .null, .null, .null, .int 0, .null, .null, .null, .int 0, .null, .null, .int 0, .int 0]))) := va_up_self _ _ _
  refine lv_aload_n hx hb dX6_init_12 rfl (lv_at hl 0 rfl) ?_
  refine lv_bipush (v := 20) hx hb dX6_init_13 (by decide) ?_
  refine zw_newi (N' := 20) hx hb (hts (.arrayClass .int) (by decide +kernel)) hE.1 hD0 hs0 (by decide) (by decide) (by decide) (by show _ ≤ _; exact Nat.le_of_ble_eq_true rfl) (by show _ ≤ _; exact Nat.le_of_ble_eq_true rfl) dX6_init_15 (fun q1 H1 hA1 _ => ?_)
  obtain ⟨eq1, hN1, hB1⟩ := e_new hA1
  subst eq1
  have ha1 := e_ob hg0 hN1
  have hc1 := (va_up_ne (va_up B0 a (some (.inr (6, [.ref N, .null, .null, .null, .null, .null, .null, .int 0, .null, .null, .null, .null, .null, .null, .null, .int 0, .null, .null, .null, .int 0, .null, .null, .int 0, .int 0])))) (some (.inl (D.2.1, 20, .inl (fun _ => 0)))) ha1).trans hg0
  refine zw_putF (C := RX6) (T := TX6) (N := 24) hx hb hts hin0 tyX6 tyX6_ok nmX6 hown hE.1 hB1 (e_at hc1) rfl 1 (by decide) (hts (.fieldLink RX6 13 "UnionListModel" "title" "[I") (by decide +kernel)) (fun _ h9 => h9) rfl hnm rfl rfl rfl (Nat.le_of_ble_eq_true rfl) dX6_init_17 e_put (fun H1 locs1 hD1 => ?_)
  replace hD1 : zW D S0 (eR (N + 2) (va_up (va_up (va_up B0 a (some (.inr (6, [.ref N, .null, .null, .null, .null, .null, .null, .int 0, .null, .null, .null, .null, .null, .null, .null, .int 0, .null, .null, .null, .int 0, .null, .null, .int 0, .int 0])))) (N + 1) (some (.inl (D.2.1, 20, .inl (fun _ => 0))))) a (some (.inr (6, [.ref N, .ref (N + 1), .null, .null, .null, .null, .null, .int 0, .null, .null, .null, .null, .null, .null, .null, .int 0, .null, .null, .null, .int 0, .null, .null, .int 0, .int 0]))))) s.heap H1 locs1 := hD1
  rw [e_re _ _ _ _ _ _ ha1] at hD1
  obtain ⟨B1, eB1⟩ : ∃ y, y = va_up B0 (N + 1) (some (.inl (D.2.1, 20, .inl (fun _ => 0)))) := ⟨_, rfl⟩
  rw [← eB1] at hD1
  have hg1 : (va_up B1 a (some (.inr (6, [.ref N, .ref (N + 1), .null, .null, .null, .null, .null, .int 0, .null, .null, .null, .null, .null, .null, .null, .int 0, .null, .null, .null, .int 0, .null, .null, .int 0, .int 0])))) a = (some (.inr (6, [.ref N, .ref (N + 1), .null, .null, .null, .null, .null, .int 0, .null, .null, .null, .null, .null, .null, .null, .int 0, .null, .null, .null, .int 0, .null, .null, .int 0, .int 0]))) := va_up_self _ _ _
  refine lv_aload_n hx hb dX6_init_20 rfl (lv_at hl 0 rfl) ?_
  refine lv_bipush (v := 20) hx hb dX6_init_21 (by decide) ?_
  refine zw_newi (N' := 20) hx hb (hts (.arrayClass .int) (by decide +kernel)) hE.1 hD1 hs0 (by decide) (by decide) (by decide) (by show _ ≤ _; exact Nat.le_of_ble_eq_true rfl) (by show _ ≤ _; exact Nat.le_of_ble_eq_true rfl) dX6_init_23 (fun q2 H2 hA2 _ => ?_)
  obtain ⟨eq2, hN2, hB2⟩ := e_new hA2
  subst eq2
  have ha2 := e_ob hg1 hN2
  have hc2 := (va_up_ne (va_up B1 a (some (.inr (6, [.ref N, .ref (N + 1), .null, .null, .null, .null, .null, .int 0, .null, .null, .null, .null, .null, .null, .null, .int 0, .null, .null, .null, .int 0, .null, .null, .int 0, .int 0])))) (some (.inl (D.2.1, 20, .inl (fun _ => 0)))) ha2).trans hg1
  refine zw_putF (C := RX6) (T := TX6) (N := 24) hx hb hts hin0 tyX6 tyX6_ok nmX6 hown hE.1 hB2 (e_at hc2) rfl 2 (by decide) (hts (.fieldLink RX6 16 "UnionListModel" "place" "[I") (by decide +kernel)) (fun _ h9 => h9) rfl hnm rfl rfl rfl (Nat.le_of_ble_eq_true rfl) dX6_init_25 e_put (fun H2 locs2 hD2 => ?_)
  replace hD2 : zW D S0 (eR (N + 3) (va_up (va_up (va_up B1 a (some (.inr (6, [.ref N, .ref (N + 1), .null, .null, .null, .null, .null, .int 0, .null, .null, .null, .null, .null, .null, .null, .int 0, .null, .null, .null, .int 0, .null, .null, .int 0, .int 0])))) (N + 2) (some (.inl (D.2.1, 20, .inl (fun _ => 0))))) a (some (.inr (6, [.ref N, .ref (N + 1), .ref (N + 2), .null, .null, .null, .null, .int 0, .null, .null, .null, .null, .null, .null, .null, .int 0, .null, .null, .null, .int 0, .null, .null, .int 0, .int 0]))))) s.heap H2 locs2 := hD2
  rw [e_re _ _ _ _ _ _ ha2] at hD2
  obtain ⟨B2, eB2⟩ : ∃ y, y = va_up B1 (N + 2) (some (.inl (D.2.1, 20, .inl (fun _ => 0)))) := ⟨_, rfl⟩
  rw [← eB2] at hD2
  have hg2 : (va_up B2 a (some (.inr (6, [.ref N, .ref (N + 1), .ref (N + 2), .null, .null, .null, .null, .int 0, .null, .null, .null, .null, .null, .null, .null, .int 0, .null, .null, .null, .int 0, .null, .null, .int 0, .int 0])))) a = (some (.inr (6, [.ref N, .ref (N + 1), .ref (N + 2), .null, .null, .null, .null, .int 0, .null, .null, .null, .null, .null, .null, .null, .int 0, .null, .null, .null, .int 0, .null, .null, .int 0, .int 0]))) := va_up_self _ _ _
  refine lv_aload_n hx hb dX6_init_28 rfl (lv_at hl 0 rfl) ?_
  refine lv_bipush (v := 20) hx hb dX6_init_29 (by decide) ?_
  refine zw_newi (N' := 20) hx hb (hts (.arrayClass .int) (by decide +kernel)) hE.1 hD2 hs0 (by decide) (by decide) (by decide) (by show _ ≤ _; exact Nat.le_of_ble_eq_true rfl) (by show _ ≤ _; exact Nat.le_of_ble_eq_true rfl) dX6_init_31 (fun q3 H3 hA3 _ => ?_)
  obtain ⟨eq3, hN3, hB3⟩ := e_new hA3
  subst eq3
  have ha3 := e_ob hg2 hN3
  have hc3 := (va_up_ne (va_up B2 a (some (.inr (6, [.ref N, .ref (N + 1), .ref (N + 2), .null, .null, .null, .null, .int 0, .null, .null, .null, .null, .null, .null, .null, .int 0, .null, .null, .null, .int 0, .null, .null, .int 0, .int 0])))) (some (.inl (D.2.1, 20, .inl (fun _ => 0)))) ha3).trans hg2
  refine zw_putF (C := RX6) (T := TX6) (N := 24) hx hb hts hin0 tyX6 tyX6_ok nmX6 hown hE.1 hB3 (e_at hc3) rfl 3 (by decide) (hts (.fieldLink RX6 19 "UnionListModel" "hands" "[I") (by decide +kernel)) (fun _ h9 => h9) rfl hnm rfl rfl rfl (Nat.le_of_ble_eq_true rfl) dX6_init_33 e_put (fun H3 locs3 hD3 => ?_)
  replace hD3 : zW D S0 (eR (N + 4) (va_up (va_up (va_up B2 a (some (.inr (6, [.ref N, .ref (N + 1), .ref (N + 2), .null, .null, .null, .null, .int 0, .null, .null, .null, .null, .null, .null, .null, .int 0, .null, .null, .null, .int 0, .null, .null, .int 0, .int 0])))) (N + 3) (some (.inl (D.2.1, 20, .inl (fun _ => 0))))) a (some (.inr (6, [.ref N, .ref (N + 1), .ref (N + 2), .ref (N + 3), .null, .null, .null, .int 0, .null, .null, .null, .null, .null, .null, .null, .int 0, .null, .null, .null, .int 0, .null, .null, .int 0, .int 0]))))) s.heap H3 locs3 := hD3
  rw [e_re _ _ _ _ _ _ ha3] at hD3
  obtain ⟨B3, eB3⟩ : ∃ y, y = va_up B2 (N + 3) (some (.inl (D.2.1, 20, .inl (fun _ => 0)))) := ⟨_, rfl⟩
  rw [← eB3] at hD3
  have hg3 : (va_up B3 a (some (.inr (6, [.ref N, .ref (N + 1), .ref (N + 2), .ref (N + 3), .null, .null, .null, .int 0, .null, .null, .null, .null, .null, .null, .null, .int 0, .null, .null, .null, .int 0, .null, .null, .int 0, .int 0])))) a = (some (.inr (6, [.ref N, .ref (N + 1), .ref (N + 2), .ref (N + 3), .null, .null, .null, .int 0, .null, .null, .null, .null, .null, .null, .null, .int 0, .null, .null, .null, .int 0, .null, .null, .int 0, .int 0]))) := va_up_self _ _ _
  refine lv_aload_n hx hb dX6_init_36 rfl (lv_at hl 0 rfl) ?_
  refine lv_bipush (v := 20) hx hb dX6_init_37 (by decide) ?_
  refine zw_newi (N' := 20) hx hb (hts (.arrayClass .int) (by decide +kernel)) hE.1 hD3 hs0 (by decide) (by decide) (by decide) (by show _ ≤ _; exact Nat.le_of_ble_eq_true rfl) (by show _ ≤ _; exact Nat.le_of_ble_eq_true rfl) dX6_init_39 (fun q4 H4 hA4 _ => ?_)
  obtain ⟨eq4, hN4, hB4⟩ := e_new hA4
  subst eq4
  have ha4 := e_ob hg3 hN4
  have hc4 := (va_up_ne (va_up B3 a (some (.inr (6, [.ref N, .ref (N + 1), .ref (N + 2), .ref (N + 3), .null, .null, .null, .int 0, .null, .null, .null, .null, .null, .null, .null, .int 0, .null, .null, .null, .int 0, .null, .null, .int 0, .int 0])))) (some (.inl (D.2.1, 20, .inl (fun _ => 0)))) ha4).trans hg3
  refine zw_putF (C := RX6) (T := TX6) (N := 24) hx hb hts hin0 tyX6 tyX6_ok nmX6 hown hE.1 hB4 (e_at hc4) rfl 4 (by decide) (hts (.fieldLink RX6 22 "UnionListModel" "knows" "[I") (by decide +kernel)) (fun _ h9 => h9) rfl hnm rfl rfl rfl (Nat.le_of_ble_eq_true rfl) dX6_init_41 e_put (fun H4 locs4 hD4 => ?_)
  replace hD4 : zW D S0 (eR (N + 5) (va_up (va_up (va_up B3 a (some (.inr (6, [.ref N, .ref (N + 1), .ref (N + 2), .ref (N + 3), .null, .null, .null, .int 0, .null, .null, .null, .null, .null, .null, .null, .int 0, .null, .null, .null, .int 0, .null, .null, .int 0, .int 0])))) (N + 4) (some (.inl (D.2.1, 20, .inl (fun _ => 0))))) a (some (.inr (6, [.ref N, .ref (N + 1), .ref (N + 2), .ref (N + 3), .ref (N + 4), .null, .null, .int 0, .null, .null, .null, .null, .null, .null, .null, .int 0, .null, .null, .null, .int 0, .null, .null, .int 0, .int 0]))))) s.heap H4 locs4 := hD4
  rw [e_re _ _ _ _ _ _ ha4] at hD4
  obtain ⟨B4, eB4⟩ : ∃ y, y = va_up B3 (N + 4) (some (.inl (D.2.1, 20, .inl (fun _ => 0)))) := ⟨_, rfl⟩
  rw [← eB4] at hD4
  have hg4 : (va_up B4 a (some (.inr (6, [.ref N, .ref (N + 1), .ref (N + 2), .ref (N + 3), .ref (N + 4), .null, .null, .int 0, .null, .null, .null, .null, .null, .null, .null, .int 0, .null, .null, .null, .int 0, .null, .null, .int 0, .int 0])))) a = (some (.inr (6, [.ref N, .ref (N + 1), .ref (N + 2), .ref (N + 3), .ref (N + 4), .null, .null, .int 0, .null, .null, .null, .null, .null, .null, .null, .int 0, .null, .null, .null, .int 0, .null, .null, .int 0, .int 0]))) := va_up_self _ _ _
  refine lv_aload_n hx hb dX6_init_44 rfl (lv_at hl 0 rfl) ?_
  refine lv_bipush (v := 20) hx hb dX6_init_45 (by decide) ?_
  refine zw_newi (N' := 20) hx hb (hts (.arrayClass .int) (by decide +kernel)) hE.1 hD4 hs0 (by decide) (by decide) (by decide) (by show _ ≤ _; exact Nat.le_of_ble_eq_true rfl) (by show _ ≤ _; exact Nat.le_of_ble_eq_true rfl) dX6_init_47 (fun q5 H5 hA5 _ => ?_)
  obtain ⟨eq5, hN5, hB5⟩ := e_new hA5
  subst eq5
  have ha5 := e_ob hg4 hN5
  have hc5 := (va_up_ne (va_up B4 a (some (.inr (6, [.ref N, .ref (N + 1), .ref (N + 2), .ref (N + 3), .ref (N + 4), .null, .null, .int 0, .null, .null, .null, .null, .null, .null, .null, .int 0, .null, .null, .null, .int 0, .null, .null, .int 0, .int 0])))) (some (.inl (D.2.1, 20, .inl (fun _ => 0)))) ha5).trans hg4
  refine zw_putF (C := RX6) (T := TX6) (N := 24) hx hb hts hin0 tyX6 tyX6_ok nmX6 hown hE.1 hB5 (e_at hc5) rfl 5 (by decide) (hts (.fieldLink RX6 25 "UnionListModel" "harmed" "[I") (by decide +kernel)) (fun _ h9 => h9) rfl hnm rfl rfl rfl (Nat.le_of_ble_eq_true rfl) dX6_init_49 e_put (fun H5 locs5 hD5 => ?_)
  replace hD5 : zW D S0 (eR (N + 6) (va_up (va_up (va_up B4 a (some (.inr (6, [.ref N, .ref (N + 1), .ref (N + 2), .ref (N + 3), .ref (N + 4), .null, .null, .int 0, .null, .null, .null, .null, .null, .null, .null, .int 0, .null, .null, .null, .int 0, .null, .null, .int 0, .int 0])))) (N + 5) (some (.inl (D.2.1, 20, .inl (fun _ => 0))))) a (some (.inr (6, [.ref N, .ref (N + 1), .ref (N + 2), .ref (N + 3), .ref (N + 4), .ref (N + 5), .null, .int 0, .null, .null, .null, .null, .null, .null, .null, .int 0, .null, .null, .null, .int 0, .null, .null, .int 0, .int 0]))))) s.heap H5 locs5 := hD5
  rw [e_re _ _ _ _ _ _ ha5] at hD5
  obtain ⟨B5, eB5⟩ : ∃ y, y = va_up B4 (N + 5) (some (.inl (D.2.1, 20, .inl (fun _ => 0)))) := ⟨_, rfl⟩
  rw [← eB5] at hD5
  have hg5 : (va_up B5 a (some (.inr (6, [.ref N, .ref (N + 1), .ref (N + 2), .ref (N + 3), .ref (N + 4), .ref (N + 5), .null, .int 0, .null, .null, .null, .null, .null, .null, .null, .int 0, .null, .null, .null, .int 0, .null, .null, .int 0, .int 0])))) a = (some (.inr (6, [.ref N, .ref (N + 1), .ref (N + 2), .ref (N + 3), .ref (N + 4), .ref (N + 5), .null, .int 0, .null, .null, .null, .null, .null, .null, .null, .int 0, .null, .null, .null, .int 0, .null, .null, .int 0, .int 0]))) := va_up_self _ _ _
  refine lv_aload_n hx hb dX6_init_52 rfl (lv_at hl 0 rfl) ?_
  refine lv_bipush (v := 20) hx hb dX6_init_53 (by decide) ?_
  refine zw_newi (N' := 20) hx hb (hts (.arrayClass .int) (by decide +kernel)) hE.1 hD5 hs0 (by decide) (by decide) (by decide) (by show _ ≤ _; exact Nat.le_of_ble_eq_true rfl) (by show _ ≤ _; exact Nat.le_of_ble_eq_true rfl) dX6_init_55 (fun q6 H6 hA6 _ => ?_)
  obtain ⟨eq6, hN6, hB6⟩ := e_new hA6
  subst eq6
  have ha6 := e_ob hg5 hN6
  have hc6 := (va_up_ne (va_up B5 a (some (.inr (6, [.ref N, .ref (N + 1), .ref (N + 2), .ref (N + 3), .ref (N + 4), .ref (N + 5), .null, .int 0, .null, .null, .null, .null, .null, .null, .null, .int 0, .null, .null, .null, .int 0, .null, .null, .int 0, .int 0])))) (some (.inl (D.2.1, 20, .inl (fun _ => 0)))) ha6).trans hg5
  refine zw_putF (C := RX6) (T := TX6) (N := 24) hx hb hts hin0 tyX6 tyX6_ok nmX6 hown hE.1 hB6 (e_at hc6) rfl 6 (by decide) (hts (.fieldLink RX6 28 "UnionListModel" "seen" "[I") (by decide +kernel)) (fun _ h9 => h9) rfl hnm rfl rfl rfl (Nat.le_of_ble_eq_true rfl) dX6_init_57 e_put (fun H6 locs6 hD6 => ?_)
  replace hD6 : zW D S0 (eR (N + 7) (va_up (va_up (va_up B5 a (some (.inr (6, [.ref N, .ref (N + 1), .ref (N + 2), .ref (N + 3), .ref (N + 4), .ref (N + 5), .null, .int 0, .null, .null, .null, .null, .null, .null, .null, .int 0, .null, .null, .null, .int 0, .null, .null, .int 0, .int 0])))) (N + 6) (some (.inl (D.2.1, 20, .inl (fun _ => 0))))) a (some (.inr (6, [.ref N, .ref (N + 1), .ref (N + 2), .ref (N + 3), .ref (N + 4), .ref (N + 5), .ref (N + 6), .int 0, .null, .null, .null, .null, .null, .null, .null, .int 0, .null, .null, .null, .int 0, .null, .null, .int 0, .int 0]))))) s.heap H6 locs6 := hD6
  rw [e_re _ _ _ _ _ _ ha6] at hD6
  obtain ⟨B6, eB6⟩ : ∃ y, y = va_up B5 (N + 6) (some (.inl (D.2.1, 20, .inl (fun _ => 0)))) := ⟨_, rfl⟩
  rw [← eB6] at hD6
  have hg6 : (va_up B6 a (some (.inr (6, [.ref N, .ref (N + 1), .ref (N + 2), .ref (N + 3), .ref (N + 4), .ref (N + 5), .ref (N + 6), .int 0, .null, .null, .null, .null, .null, .null, .null, .int 0, .null, .null, .null, .int 0, .null, .null, .int 0, .int 0])))) a = (some (.inr (6, [.ref N, .ref (N + 1), .ref (N + 2), .ref (N + 3), .ref (N + 4), .ref (N + 5), .ref (N + 6), .int 0, .null, .null, .null, .null, .null, .null, .null, .int 0, .null, .null, .null, .int 0, .null, .null, .int 0, .int 0]))) := va_up_self _ _ _
  refine lv_aload_n hx hb dX6_init_60 rfl (lv_at hl 0 rfl) ?_
  refine lv_bipush (v := 40) hx hb dX6_init_61 (by decide) ?_
  refine zw_newi (N' := 40) hx hb (hts (.arrayClass .int) (by decide +kernel)) hE.1 hD6 hs0 (by decide) (by decide) (by decide) (by show _ ≤ _; exact Nat.le_of_ble_eq_true rfl) (by show _ ≤ _; exact Nat.le_of_ble_eq_true rfl) dX6_init_63 (fun q7 H7 hA7 _ => ?_)
  obtain ⟨eq7, hN7, hB7⟩ := e_new hA7
  subst eq7
  have ha7 := e_ob hg6 hN7
  have hc7 := (va_up_ne (va_up B6 a (some (.inr (6, [.ref N, .ref (N + 1), .ref (N + 2), .ref (N + 3), .ref (N + 4), .ref (N + 5), .ref (N + 6), .int 0, .null, .null, .null, .null, .null, .null, .null, .int 0, .null, .null, .null, .int 0, .null, .null, .int 0, .int 0])))) (some (.inl (D.2.1, 40, .inl (fun _ => 0)))) ha7).trans hg6
  refine zw_putF (C := RX6) (T := TX6) (N := 24) hx hb hts hin0 tyX6 tyX6_ok nmX6 hown hE.1 hB7 (e_at hc7) rfl 8 (by decide) (hts (.fieldLink RX6 31 "UnionListModel" "whose" "[I") (by decide +kernel)) (fun _ h9 => h9) rfl hnm rfl rfl rfl (Nat.le_of_ble_eq_true rfl) dX6_init_65 e_put (fun H7 locs7 hD7 => ?_)
  replace hD7 : zW D S0 (eR (N + 8) (va_up (va_up (va_up B6 a (some (.inr (6, [.ref N, .ref (N + 1), .ref (N + 2), .ref (N + 3), .ref (N + 4), .ref (N + 5), .ref (N + 6), .int 0, .null, .null, .null, .null, .null, .null, .null, .int 0, .null, .null, .null, .int 0, .null, .null, .int 0, .int 0])))) (N + 7) (some (.inl (D.2.1, 40, .inl (fun _ => 0))))) a (some (.inr (6, [.ref N, .ref (N + 1), .ref (N + 2), .ref (N + 3), .ref (N + 4), .ref (N + 5), .ref (N + 6), .int 0, .ref (N + 7), .null, .null, .null, .null, .null, .null, .int 0, .null, .null, .null, .int 0, .null, .null, .int 0, .int 0]))))) s.heap H7 locs7 := hD7
  rw [e_re _ _ _ _ _ _ ha7] at hD7
  obtain ⟨B7, eB7⟩ : ∃ y, y = va_up B6 (N + 7) (some (.inl (D.2.1, 40, .inl (fun _ => 0)))) := ⟨_, rfl⟩
  rw [← eB7] at hD7
  have hg7 : (va_up B7 a (some (.inr (6, [.ref N, .ref (N + 1), .ref (N + 2), .ref (N + 3), .ref (N + 4), .ref (N + 5), .ref (N + 6), .int 0, .ref (N + 7), .null, .null, .null, .null, .null, .null, .int 0, .null, .null, .null, .int 0, .null, .null, .int 0, .int 0])))) a = (some (.inr (6, [.ref N, .ref (N + 1), .ref (N + 2), .ref (N + 3), .ref (N + 4), .ref (N + 5), .ref (N + 6), .int 0, .ref (N + 7), .null, .null, .null, .null, .null, .null, .int 0, .null, .null, .null, .int 0, .null, .null, .int 0, .int 0]))) := va_up_self _ _ _
  refine lv_aload_n hx hb dX6_init_68 rfl (lv_at hl 0 rfl) ?_
  refine lv_bipush (v := 40) hx hb dX6_init_69 (by decide) ?_
  refine zw_newi (N' := 40) hx hb (hts (.arrayClass .int) (by decide +kernel)) hE.1 hD7 hs0 (by decide) (by decide) (by decide) (by show _ ≤ _; exact Nat.le_of_ble_eq_true rfl) (by show _ ≤ _; exact Nat.le_of_ble_eq_true rfl) dX6_init_71 (fun q8 H8 hA8 _ => ?_)
  obtain ⟨eq8, hN8, hB8⟩ := e_new hA8
  subst eq8
  have ha8 := e_ob hg7 hN8
  have hc8 := (va_up_ne (va_up B7 a (some (.inr (6, [.ref N, .ref (N + 1), .ref (N + 2), .ref (N + 3), .ref (N + 4), .ref (N + 5), .ref (N + 6), .int 0, .ref (N + 7), .null, .null, .null, .null, .null, .null, .int 0, .null, .null, .null, .int 0, .null, .null, .int 0, .int 0])))) (some (.inl (D.2.1, 40, .inl (fun _ => 0)))) ha8).trans hg7
  refine zw_putF (C := RX6) (T := TX6) (N := 24) hx hb hts hin0 tyX6 tyX6_ok nmX6 hown hE.1 hB8 (e_at hc8) rfl 9 (by decide) (hts (.fieldLink RX6 34 "UnionListModel" "wanted" "[I") (by decide +kernel)) (fun _ h9 => h9) rfl hnm rfl rfl rfl (Nat.le_of_ble_eq_true rfl) dX6_init_73 e_put (fun H8 locs8 hD8 => ?_)
  replace hD8 : zW D S0 (eR (N + 9) (va_up (va_up (va_up B7 a (some (.inr (6, [.ref N, .ref (N + 1), .ref (N + 2), .ref (N + 3), .ref (N + 4), .ref (N + 5), .ref (N + 6), .int 0, .ref (N + 7), .null, .null, .null, .null, .null, .null, .int 0, .null, .null, .null, .int 0, .null, .null, .int 0, .int 0])))) (N + 8) (some (.inl (D.2.1, 40, .inl (fun _ => 0))))) a (some (.inr (6, [.ref N, .ref (N + 1), .ref (N + 2), .ref (N + 3), .ref (N + 4), .ref (N + 5), .ref (N + 6), .int 0, .ref (N + 7), .ref (N + 8), .null, .null, .null, .null, .null, .int 0, .null, .null, .null, .int 0, .null, .null, .int 0, .int 0]))))) s.heap H8 locs8 := hD8
  rw [e_re _ _ _ _ _ _ ha8] at hD8
  obtain ⟨B8, eB8⟩ : ∃ y, y = va_up B7 (N + 8) (some (.inl (D.2.1, 40, .inl (fun _ => 0)))) := ⟨_, rfl⟩
  rw [← eB8] at hD8
  have hg8 : (va_up B8 a (some (.inr (6, [.ref N, .ref (N + 1), .ref (N + 2), .ref (N + 3), .ref (N + 4), .ref (N + 5), .ref (N + 6), .int 0, .ref (N + 7), .ref (N + 8), .null, .null, .null, .null, .null, .int 0, .null, .null, .null, .int 0, .null, .null, .int 0, .int 0])))) a = (some (.inr (6, [.ref N, .ref (N + 1), .ref (N + 2), .ref (N + 3), .ref (N + 4), .ref (N + 5), .ref (N + 6), .int 0, .ref (N + 7), .ref (N + 8), .null, .null, .null, .null, .null, .int 0, .null, .null, .null, .int 0, .null, .null, .int 0, .int 0]))) := va_up_self _ _ _
  refine lv_aload_n hx hb dX6_init_76 rfl (lv_at hl 0 rfl) ?_
  refine lv_bipush (v := 40) hx hb dX6_init_77 (by decide) ?_
  refine zw_newi (N' := 40) hx hb (hts (.arrayClass .int) (by decide +kernel)) hE.1 hD8 hs0 (by decide) (by decide) (by decide) (by show _ ≤ _; exact Nat.le_of_ble_eq_true rfl) (by show _ ≤ _; exact Nat.le_of_ble_eq_true rfl) dX6_init_79 (fun q9 H9 hA9 _ => ?_)
  obtain ⟨eq9, hN9, hB9⟩ := e_new hA9
  subst eq9
  have ha9 := e_ob hg8 hN9
  have hc9 := (va_up_ne (va_up B8 a (some (.inr (6, [.ref N, .ref (N + 1), .ref (N + 2), .ref (N + 3), .ref (N + 4), .ref (N + 5), .ref (N + 6), .int 0, .ref (N + 7), .ref (N + 8), .null, .null, .null, .null, .null, .int 0, .null, .null, .null, .int 0, .null, .null, .int 0, .int 0])))) (some (.inl (D.2.1, 40, .inl (fun _ => 0)))) ha9).trans hg8
  refine zw_putF (C := RX6) (T := TX6) (N := 24) hx hb hts hin0 tyX6 tyX6_ok nmX6 hown hE.1 hB9 (e_at hc9) rfl 10 (by decide) (hts (.fieldLink RX6 37 "UnionListModel" "stage" "[I") (by decide +kernel)) (fun _ h9 => h9) rfl hnm rfl rfl rfl (Nat.le_of_ble_eq_true rfl) dX6_init_81 e_put (fun H9 locs9 hD9 => ?_)
  replace hD9 : zW D S0 (eR (N + 10) (va_up (va_up (va_up B8 a (some (.inr (6, [.ref N, .ref (N + 1), .ref (N + 2), .ref (N + 3), .ref (N + 4), .ref (N + 5), .ref (N + 6), .int 0, .ref (N + 7), .ref (N + 8), .null, .null, .null, .null, .null, .int 0, .null, .null, .null, .int 0, .null, .null, .int 0, .int 0])))) (N + 9) (some (.inl (D.2.1, 40, .inl (fun _ => 0))))) a (some (.inr (6, [.ref N, .ref (N + 1), .ref (N + 2), .ref (N + 3), .ref (N + 4), .ref (N + 5), .ref (N + 6), .int 0, .ref (N + 7), .ref (N + 8), .ref (N + 9), .null, .null, .null, .null, .int 0, .null, .null, .null, .int 0, .null, .null, .int 0, .int 0]))))) s.heap H9 locs9 := hD9
  rw [e_re _ _ _ _ _ _ ha9] at hD9
  obtain ⟨B9, eB9⟩ : ∃ y, y = va_up B8 (N + 9) (some (.inl (D.2.1, 40, .inl (fun _ => 0)))) := ⟨_, rfl⟩
  rw [← eB9] at hD9
  have hg9 : (va_up B9 a (some (.inr (6, [.ref N, .ref (N + 1), .ref (N + 2), .ref (N + 3), .ref (N + 4), .ref (N + 5), .ref (N + 6), .int 0, .ref (N + 7), .ref (N + 8), .ref (N + 9), .null, .null, .null, .null, .int 0, .null, .null, .null, .int 0, .null, .null, .int 0, .int 0])))) a = (some (.inr (6, [.ref N, .ref (N + 1), .ref (N + 2), .ref (N + 3), .ref (N + 4), .ref (N + 5), .ref (N + 6), .int 0, .ref (N + 7), .ref (N + 8), .ref (N + 9), .null, .null, .null, .null, .int 0, .null, .null, .null, .int 0, .null, .null, .int 0, .int 0]))) := va_up_self _ _ _
  refine lv_aload_n hx hb dX6_init_84 rfl (lv_at hl 0 rfl) ?_
  refine lv_bipush (v := 40) hx hb dX6_init_85 (by decide) ?_
  refine zw_newi (N' := 40) hx hb (hts (.arrayClass .int) (by decide +kernel)) hE.1 hD9 hs0 (by decide) (by decide) (by decide) (by show _ ≤ _; exact Nat.le_of_ble_eq_true rfl) (by show _ ≤ _; exact Nat.le_of_ble_eq_true rfl) dX6_init_87 (fun q10 H10 hA10 _ => ?_)
  obtain ⟨eq10, hN10, hB10⟩ := e_new hA10
  subst eq10
  have ha10 := e_ob hg9 hN10
  have hc10 := (va_up_ne (va_up B9 a (some (.inr (6, [.ref N, .ref (N + 1), .ref (N + 2), .ref (N + 3), .ref (N + 4), .ref (N + 5), .ref (N + 6), .int 0, .ref (N + 7), .ref (N + 8), .ref (N + 9), .null, .null, .null, .null, .int 0, .null, .null, .null, .int 0, .null, .null, .int 0, .int 0])))) (some (.inl (D.2.1, 40, .inl (fun _ => 0)))) ha10).trans hg9
  refine zw_putF (C := RX6) (T := TX6) (N := 24) hx hb hts hin0 tyX6 tyX6_ok nmX6 hown hE.1 hB10 (e_at hc10) rfl 11 (by decide) (hts (.fieldLink RX6 40 "UnionListModel" "loaned" "[I") (by decide +kernel)) (fun _ h9 => h9) rfl hnm rfl rfl rfl (Nat.le_of_ble_eq_true rfl) dX6_init_89 e_put (fun H10 locs10 hD10 => ?_)
  replace hD10 : zW D S0 (eR (N + 11) (va_up (va_up (va_up B9 a (some (.inr (6, [.ref N, .ref (N + 1), .ref (N + 2), .ref (N + 3), .ref (N + 4), .ref (N + 5), .ref (N + 6), .int 0, .ref (N + 7), .ref (N + 8), .ref (N + 9), .null, .null, .null, .null, .int 0, .null, .null, .null, .int 0, .null, .null, .int 0, .int 0])))) (N + 10) (some (.inl (D.2.1, 40, .inl (fun _ => 0))))) a (some (.inr (6, [.ref N, .ref (N + 1), .ref (N + 2), .ref (N + 3), .ref (N + 4), .ref (N + 5), .ref (N + 6), .int 0, .ref (N + 7), .ref (N + 8), .ref (N + 9), .ref (N + 10), .null, .null, .null, .int 0, .null, .null, .null, .int 0, .null, .null, .int 0, .int 0]))))) s.heap H10 locs10 := hD10
  rw [e_re _ _ _ _ _ _ ha10] at hD10
  obtain ⟨B10, eB10⟩ : ∃ y, y = va_up B9 (N + 10) (some (.inl (D.2.1, 40, .inl (fun _ => 0)))) := ⟨_, rfl⟩
  rw [← eB10] at hD10
  have hg10 : (va_up B10 a (some (.inr (6, [.ref N, .ref (N + 1), .ref (N + 2), .ref (N + 3), .ref (N + 4), .ref (N + 5), .ref (N + 6), .int 0, .ref (N + 7), .ref (N + 8), .ref (N + 9), .ref (N + 10), .null, .null, .null, .int 0, .null, .null, .null, .int 0, .null, .null, .int 0, .int 0])))) a = (some (.inr (6, [.ref N, .ref (N + 1), .ref (N + 2), .ref (N + 3), .ref (N + 4), .ref (N + 5), .ref (N + 6), .int 0, .ref (N + 7), .ref (N + 8), .ref (N + 9), .ref (N + 10), .null, .null, .null, .int 0, .null, .null, .null, .int 0, .null, .null, .int 0, .int 0]))) := va_up_self _ _ _
  refine lv_aload_n hx hb dX6_init_92 rfl (lv_at hl 0 rfl) ?_
  refine lv_bipush (v := 40) hx hb dX6_init_93 (by decide) ?_
  refine zw_newi (N' := 40) hx hb (hts (.arrayClass .int) (by decide +kernel)) hE.1 hD10 hs0 (by decide) (by decide) (by decide) (by show _ ≤ _; exact Nat.le_of_ble_eq_true rfl) (by show _ ≤ _; exact Nat.le_of_ble_eq_true rfl) dX6_init_95 (fun q11 H11 hA11 _ => ?_)
  obtain ⟨eq11, hN11, hB11⟩ := e_new hA11
  subst eq11
  have ha11 := e_ob hg10 hN11
  have hc11 := (va_up_ne (va_up B10 a (some (.inr (6, [.ref N, .ref (N + 1), .ref (N + 2), .ref (N + 3), .ref (N + 4), .ref (N + 5), .ref (N + 6), .int 0, .ref (N + 7), .ref (N + 8), .ref (N + 9), .ref (N + 10), .null, .null, .null, .int 0, .null, .null, .null, .int 0, .null, .null, .int 0, .int 0])))) (some (.inl (D.2.1, 40, .inl (fun _ => 0)))) ha11).trans hg10
  refine zw_putF (C := RX6) (T := TX6) (N := 24) hx hb hts hin0 tyX6 tyX6_ok nmX6 hown hE.1 hB11 (e_at hc11) rfl 12 (by decide) (hts (.fieldLink RX6 43 "UnionListModel" "until" "[I") (by decide +kernel)) (fun _ h9 => h9) rfl hnm rfl rfl rfl (Nat.le_of_ble_eq_true rfl) dX6_init_97 e_put (fun H11 locs11 hD11 => ?_)
  replace hD11 : zW D S0 (eR (N + 12) (va_up (va_up (va_up B10 a (some (.inr (6, [.ref N, .ref (N + 1), .ref (N + 2), .ref (N + 3), .ref (N + 4), .ref (N + 5), .ref (N + 6), .int 0, .ref (N + 7), .ref (N + 8), .ref (N + 9), .ref (N + 10), .null, .null, .null, .int 0, .null, .null, .null, .int 0, .null, .null, .int 0, .int 0])))) (N + 11) (some (.inl (D.2.1, 40, .inl (fun _ => 0))))) a (some (.inr (6, [.ref N, .ref (N + 1), .ref (N + 2), .ref (N + 3), .ref (N + 4), .ref (N + 5), .ref (N + 6), .int 0, .ref (N + 7), .ref (N + 8), .ref (N + 9), .ref (N + 10), .ref (N + 11), .null, .null, .int 0, .null, .null, .null, .int 0, .null, .null, .int 0, .int 0]))))) s.heap H11 locs11 := hD11
  rw [e_re _ _ _ _ _ _ ha11] at hD11
  obtain ⟨B11, eB11⟩ : ∃ y, y = va_up B10 (N + 11) (some (.inl (D.2.1, 40, .inl (fun _ => 0)))) := ⟨_, rfl⟩
  rw [← eB11] at hD11
  have hg11 : (va_up B11 a (some (.inr (6, [.ref N, .ref (N + 1), .ref (N + 2), .ref (N + 3), .ref (N + 4), .ref (N + 5), .ref (N + 6), .int 0, .ref (N + 7), .ref (N + 8), .ref (N + 9), .ref (N + 10), .ref (N + 11), .null, .null, .int 0, .null, .null, .null, .int 0, .null, .null, .int 0, .int 0])))) a = (some (.inr (6, [.ref N, .ref (N + 1), .ref (N + 2), .ref (N + 3), .ref (N + 4), .ref (N + 5), .ref (N + 6), .int 0, .ref (N + 7), .ref (N + 8), .ref (N + 9), .ref (N + 10), .ref (N + 11), .null, .null, .int 0, .null, .null, .null, .int 0, .null, .null, .int 0, .int 0]))) := va_up_self _ _ _
  refine lv_aload_n hx hb dX6_init_100 rfl (lv_at hl 0 rfl) ?_
  refine lv_bipush (v := 40) hx hb dX6_init_101 (by decide) ?_
  refine zw_newi (N' := 40) hx hb (hts (.arrayClass .int) (by decide +kernel)) hE.1 hD11 hs0 (by decide) (by decide) (by decide) (by show _ ≤ _; exact Nat.le_of_ble_eq_true rfl) (by show _ ≤ _; exact Nat.le_of_ble_eq_true rfl) dX6_init_103 (fun q12 H12 hA12 _ => ?_)
  obtain ⟨eq12, hN12, hB12⟩ := e_new hA12
  subst eq12
  have ha12 := e_ob hg11 hN12
  have hc12 := (va_up_ne (va_up B11 a (some (.inr (6, [.ref N, .ref (N + 1), .ref (N + 2), .ref (N + 3), .ref (N + 4), .ref (N + 5), .ref (N + 6), .int 0, .ref (N + 7), .ref (N + 8), .ref (N + 9), .ref (N + 10), .ref (N + 11), .null, .null, .int 0, .null, .null, .null, .int 0, .null, .null, .int 0, .int 0])))) (some (.inl (D.2.1, 40, .inl (fun _ => 0)))) ha12).trans hg11
  refine zw_putF (C := RX6) (T := TX6) (N := 24) hx hb hts hin0 tyX6 tyX6_ok nmX6 hown hE.1 hB12 (e_at hc12) rfl 13 (by decide) (hts (.fieldLink RX6 46 "UnionListModel" "asked" "[I") (by decide +kernel)) (fun _ h9 => h9) rfl hnm rfl rfl rfl (Nat.le_of_ble_eq_true rfl) dX6_init_105 e_put (fun H12 locs12 hD12 => ?_)
  replace hD12 : zW D S0 (eR (N + 13) (va_up (va_up (va_up B11 a (some (.inr (6, [.ref N, .ref (N + 1), .ref (N + 2), .ref (N + 3), .ref (N + 4), .ref (N + 5), .ref (N + 6), .int 0, .ref (N + 7), .ref (N + 8), .ref (N + 9), .ref (N + 10), .ref (N + 11), .null, .null, .int 0, .null, .null, .null, .int 0, .null, .null, .int 0, .int 0])))) (N + 12) (some (.inl (D.2.1, 40, .inl (fun _ => 0))))) a (some (.inr (6, [.ref N, .ref (N + 1), .ref (N + 2), .ref (N + 3), .ref (N + 4), .ref (N + 5), .ref (N + 6), .int 0, .ref (N + 7), .ref (N + 8), .ref (N + 9), .ref (N + 10), .ref (N + 11), .ref (N + 12), .null, .int 0, .null, .null, .null, .int 0, .null, .null, .int 0, .int 0]))))) s.heap H12 locs12 := hD12
  rw [e_re _ _ _ _ _ _ ha12] at hD12
  obtain ⟨B12, eB12⟩ : ∃ y, y = va_up B11 (N + 12) (some (.inl (D.2.1, 40, .inl (fun _ => 0)))) := ⟨_, rfl⟩
  rw [← eB12] at hD12
  have hg12 : (va_up B12 a (some (.inr (6, [.ref N, .ref (N + 1), .ref (N + 2), .ref (N + 3), .ref (N + 4), .ref (N + 5), .ref (N + 6), .int 0, .ref (N + 7), .ref (N + 8), .ref (N + 9), .ref (N + 10), .ref (N + 11), .ref (N + 12), .null, .int 0, .null, .null, .null, .int 0, .null, .null, .int 0, .int 0])))) a = (some (.inr (6, [.ref N, .ref (N + 1), .ref (N + 2), .ref (N + 3), .ref (N + 4), .ref (N + 5), .ref (N + 6), .int 0, .ref (N + 7), .ref (N + 8), .ref (N + 9), .ref (N + 10), .ref (N + 11), .ref (N + 12), .null, .int 0, .null, .null, .null, .int 0, .null, .null, .int 0, .int 0]))) := va_up_self _ _ _
  refine lv_aload_n hx hb dX6_init_108 rfl (lv_at hl 0 rfl) ?_
  refine lv_bipush (v := 40) hx hb dX6_init_109 (by decide) ?_
  refine zw_newi (N' := 40) hx hb (hts (.arrayClass .int) (by decide +kernel)) hE.1 hD12 hs0 (by decide) (by decide) (by decide) (by show _ ≤ _; exact Nat.le_of_ble_eq_true rfl) (by show _ ≤ _; exact Nat.le_of_ble_eq_true rfl) dX6_init_111 (fun q13 H13 hA13 _ => ?_)
  obtain ⟨eq13, hN13, hB13⟩ := e_new hA13
  subst eq13
  have ha13 := e_ob hg12 hN13
  have hc13 := (va_up_ne (va_up B12 a (some (.inr (6, [.ref N, .ref (N + 1), .ref (N + 2), .ref (N + 3), .ref (N + 4), .ref (N + 5), .ref (N + 6), .int 0, .ref (N + 7), .ref (N + 8), .ref (N + 9), .ref (N + 10), .ref (N + 11), .ref (N + 12), .null, .int 0, .null, .null, .null, .int 0, .null, .null, .int 0, .int 0])))) (some (.inl (D.2.1, 40, .inl (fun _ => 0)))) ha13).trans hg12
  refine zw_putF (C := RX6) (T := TX6) (N := 24) hx hb hts hin0 tyX6 tyX6_ok nmX6 hown hE.1 hB13 (e_at hc13) rfl 14 (by decide) (hts (.fieldLink RX6 49 "UnionListModel" "called" "[I") (by decide +kernel)) (fun _ h9 => h9) rfl hnm rfl rfl rfl (Nat.le_of_ble_eq_true rfl) dX6_init_113 e_put (fun H13 locs13 hD13 => ?_)
  replace hD13 : zW D S0 (eR (N + 14) (va_up (va_up (va_up B12 a (some (.inr (6, [.ref N, .ref (N + 1), .ref (N + 2), .ref (N + 3), .ref (N + 4), .ref (N + 5), .ref (N + 6), .int 0, .ref (N + 7), .ref (N + 8), .ref (N + 9), .ref (N + 10), .ref (N + 11), .ref (N + 12), .null, .int 0, .null, .null, .null, .int 0, .null, .null, .int 0, .int 0])))) (N + 13) (some (.inl (D.2.1, 40, .inl (fun _ => 0))))) a (some (.inr (6, [.ref N, .ref (N + 1), .ref (N + 2), .ref (N + 3), .ref (N + 4), .ref (N + 5), .ref (N + 6), .int 0, .ref (N + 7), .ref (N + 8), .ref (N + 9), .ref (N + 10), .ref (N + 11), .ref (N + 12), .ref (N + 13), .int 0, .null, .null, .null, .int 0, .null, .null, .int 0, .int 0]))))) s.heap H13 locs13 := hD13
  rw [e_re _ _ _ _ _ _ ha13] at hD13
  obtain ⟨B13, eB13⟩ : ∃ y, y = va_up B12 (N + 13) (some (.inl (D.2.1, 40, .inl (fun _ => 0)))) := ⟨_, rfl⟩
  rw [← eB13] at hD13
  have hg13 : (va_up B13 a (some (.inr (6, [.ref N, .ref (N + 1), .ref (N + 2), .ref (N + 3), .ref (N + 4), .ref (N + 5), .ref (N + 6), .int 0, .ref (N + 7), .ref (N + 8), .ref (N + 9), .ref (N + 10), .ref (N + 11), .ref (N + 12), .ref (N + 13), .int 0, .null, .null, .null, .int 0, .null, .null, .int 0, .int 0])))) a = (some (.inr (6, [.ref N, .ref (N + 1), .ref (N + 2), .ref (N + 3), .ref (N + 4), .ref (N + 5), .ref (N + 6), .int 0, .ref (N + 7), .ref (N + 8), .ref (N + 9), .ref (N + 10), .ref (N + 11), .ref (N + 12), .ref (N + 13), .int 0, .null, .null, .null, .int 0, .null, .null, .int 0, .int 0]))) := va_up_self _ _ _
  refine lv_aload_n hx hb dX6_init_116 rfl (lv_at hl 0 rfl) ?_
  refine lv_sipush (v := 4000) hx hb dX6_init_117 (by decide) ?_
  refine zw_newi (N' := 4000) hx hb (hts (.arrayClass .int) (by decide +kernel)) hE.1 hD13 hs0 (by decide) (by decide) (by decide) (by show _ ≤ _; exact Nat.le_of_ble_eq_true rfl) (by show _ ≤ _; exact Nat.le_of_ble_eq_true rfl) dX6_init_120 (fun q14 H14 hA14 _ => ?_)
  obtain ⟨eq14, hN14, hB14⟩ := e_new hA14
  subst eq14
  have ha14 := e_ob hg13 hN14
  have hc14 := (va_up_ne (va_up B13 a (some (.inr (6, [.ref N, .ref (N + 1), .ref (N + 2), .ref (N + 3), .ref (N + 4), .ref (N + 5), .ref (N + 6), .int 0, .ref (N + 7), .ref (N + 8), .ref (N + 9), .ref (N + 10), .ref (N + 11), .ref (N + 12), .ref (N + 13), .int 0, .null, .null, .null, .int 0, .null, .null, .int 0, .int 0])))) (some (.inl (D.2.1, 4000, .inl (fun _ => 0)))) ha14).trans hg13
  refine zw_putF (C := RX6) (T := TX6) (N := 24) hx hb hts hin0 tyX6 tyX6_ok nmX6 hown hE.1 hB14 (e_at hc14) rfl 16 (by decide) (hts (.fieldLink RX6 52 "UnionListModel" "kind" "[I") (by decide +kernel)) (fun _ h9 => h9) rfl hnm rfl rfl rfl (Nat.le_of_ble_eq_true rfl) dX6_init_122 e_put (fun H14 locs14 hD14 => ?_)
  replace hD14 : zW D S0 (eR (N + 15) (va_up (va_up (va_up B13 a (some (.inr (6, [.ref N, .ref (N + 1), .ref (N + 2), .ref (N + 3), .ref (N + 4), .ref (N + 5), .ref (N + 6), .int 0, .ref (N + 7), .ref (N + 8), .ref (N + 9), .ref (N + 10), .ref (N + 11), .ref (N + 12), .ref (N + 13), .int 0, .null, .null, .null, .int 0, .null, .null, .int 0, .int 0])))) (N + 14) (some (.inl (D.2.1, 4000, .inl (fun _ => 0))))) a (some (.inr (6, [.ref N, .ref (N + 1), .ref (N + 2), .ref (N + 3), .ref (N + 4), .ref (N + 5), .ref (N + 6), .int 0, .ref (N + 7), .ref (N + 8), .ref (N + 9), .ref (N + 10), .ref (N + 11), .ref (N + 12), .ref (N + 13), .int 0, .ref (N + 14), .null, .null, .int 0, .null, .null, .int 0, .int 0]))))) s.heap H14 locs14 := hD14
  rw [e_re _ _ _ _ _ _ ha14] at hD14
  obtain ⟨B14, eB14⟩ : ∃ y, y = va_up B13 (N + 14) (some (.inl (D.2.1, 4000, .inl (fun _ => 0)))) := ⟨_, rfl⟩
  rw [← eB14] at hD14
  have hg14 : (va_up B14 a (some (.inr (6, [.ref N, .ref (N + 1), .ref (N + 2), .ref (N + 3), .ref (N + 4), .ref (N + 5), .ref (N + 6), .int 0, .ref (N + 7), .ref (N + 8), .ref (N + 9), .ref (N + 10), .ref (N + 11), .ref (N + 12), .ref (N + 13), .int 0, .ref (N + 14), .null, .null, .int 0, .null, .null, .int 0, .int 0])))) a = (some (.inr (6, [.ref N, .ref (N + 1), .ref (N + 2), .ref (N + 3), .ref (N + 4), .ref (N + 5), .ref (N + 6), .int 0, .ref (N + 7), .ref (N + 8), .ref (N + 9), .ref (N + 10), .ref (N + 11), .ref (N + 12), .ref (N + 13), .int 0, .ref (N + 14), .null, .null, .int 0, .null, .null, .int 0, .int 0]))) := va_up_self _ _ _
  refine lv_aload_n hx hb dX6_init_125 rfl (lv_at hl 0 rfl) ?_
  refine lv_sipush (v := 4000) hx hb dX6_init_126 (by decide) ?_
  refine zw_newi (N' := 4000) hx hb (hts (.arrayClass .int) (by decide +kernel)) hE.1 hD14 hs0 (by decide) (by decide) (by decide) (by show _ ≤ _; exact Nat.le_of_ble_eq_true rfl) (by show _ ≤ _; exact Nat.le_of_ble_eq_true rfl) dX6_init_129 (fun q15 H15 hA15 _ => ?_)
  obtain ⟨eq15, hN15, hB15⟩ := e_new hA15
  subst eq15
  have ha15 := e_ob hg14 hN15
  have hc15 := (va_up_ne (va_up B14 a (some (.inr (6, [.ref N, .ref (N + 1), .ref (N + 2), .ref (N + 3), .ref (N + 4), .ref (N + 5), .ref (N + 6), .int 0, .ref (N + 7), .ref (N + 8), .ref (N + 9), .ref (N + 10), .ref (N + 11), .ref (N + 12), .ref (N + 13), .int 0, .ref (N + 14), .null, .null, .int 0, .null, .null, .int 0, .int 0])))) (some (.inl (D.2.1, 4000, .inl (fun _ => 0)))) ha15).trans hg14
  refine zw_putF (C := RX6) (T := TX6) (N := 24) hx hb hts hin0 tyX6 tyX6_ok nmX6 hown hE.1 hB15 (e_at hc15) rfl 17 (by decide) (hts (.fieldLink RX6 55 "UnionListModel" "what" "[I") (by decide +kernel)) (fun _ h9 => h9) rfl hnm rfl rfl rfl (Nat.le_of_ble_eq_true rfl) dX6_init_131 e_put (fun H15 locs15 hD15 => ?_)
  replace hD15 : zW D S0 (eR (N + 16) (va_up (va_up (va_up B14 a (some (.inr (6, [.ref N, .ref (N + 1), .ref (N + 2), .ref (N + 3), .ref (N + 4), .ref (N + 5), .ref (N + 6), .int 0, .ref (N + 7), .ref (N + 8), .ref (N + 9), .ref (N + 10), .ref (N + 11), .ref (N + 12), .ref (N + 13), .int 0, .ref (N + 14), .null, .null, .int 0, .null, .null, .int 0, .int 0])))) (N + 15) (some (.inl (D.2.1, 4000, .inl (fun _ => 0))))) a (some (.inr (6, [.ref N, .ref (N + 1), .ref (N + 2), .ref (N + 3), .ref (N + 4), .ref (N + 5), .ref (N + 6), .int 0, .ref (N + 7), .ref (N + 8), .ref (N + 9), .ref (N + 10), .ref (N + 11), .ref (N + 12), .ref (N + 13), .int 0, .ref (N + 14), .ref (N + 15), .null, .int 0, .null, .null, .int 0, .int 0]))))) s.heap H15 locs15 := hD15
  rw [e_re _ _ _ _ _ _ ha15] at hD15
  obtain ⟨B15, eB15⟩ : ∃ y, y = va_up B14 (N + 15) (some (.inl (D.2.1, 4000, .inl (fun _ => 0)))) := ⟨_, rfl⟩
  rw [← eB15] at hD15
  have hg15 : (va_up B15 a (some (.inr (6, [.ref N, .ref (N + 1), .ref (N + 2), .ref (N + 3), .ref (N + 4), .ref (N + 5), .ref (N + 6), .int 0, .ref (N + 7), .ref (N + 8), .ref (N + 9), .ref (N + 10), .ref (N + 11), .ref (N + 12), .ref (N + 13), .int 0, .ref (N + 14), .ref (N + 15), .null, .int 0, .null, .null, .int 0, .int 0])))) a = (some (.inr (6, [.ref N, .ref (N + 1), .ref (N + 2), .ref (N + 3), .ref (N + 4), .ref (N + 5), .ref (N + 6), .int 0, .ref (N + 7), .ref (N + 8), .ref (N + 9), .ref (N + 10), .ref (N + 11), .ref (N + 12), .ref (N + 13), .int 0, .ref (N + 14), .ref (N + 15), .null, .int 0, .null, .null, .int 0, .int 0]))) := va_up_self _ _ _
  refine lv_aload_n hx hb dX6_init_134 rfl (lv_at hl 0 rfl) ?_
  refine lv_sipush (v := 4000) hx hb dX6_init_135 (by decide) ?_
  refine zw_newi (N' := 4000) hx hb (hts (.arrayClass .int) (by decide +kernel)) hE.1 hD15 hs0 (by decide) (by decide) (by decide) (by show _ ≤ _; exact Nat.le_of_ble_eq_true rfl) (by show _ ≤ _; exact Nat.le_of_ble_eq_true rfl) dX6_init_138 (fun q16 H16 hA16 _ => ?_)
  obtain ⟨eq16, hN16, hB16⟩ := e_new hA16
  subst eq16
  have ha16 := e_ob hg15 hN16
  have hc16 := (va_up_ne (va_up B15 a (some (.inr (6, [.ref N, .ref (N + 1), .ref (N + 2), .ref (N + 3), .ref (N + 4), .ref (N + 5), .ref (N + 6), .int 0, .ref (N + 7), .ref (N + 8), .ref (N + 9), .ref (N + 10), .ref (N + 11), .ref (N + 12), .ref (N + 13), .int 0, .ref (N + 14), .ref (N + 15), .null, .int 0, .null, .null, .int 0, .int 0])))) (some (.inl (D.2.1, 4000, .inl (fun _ => 0)))) ha16).trans hg15
  refine zw_putF (C := RX6) (T := TX6) (N := 24) hx hb hts hin0 tyX6 tyX6_ok nmX6 hown hE.1 hB16 (e_at hc16) rfl 18 (by decide) (hts (.fieldLink RX6 58 "UnionListModel" "day" "[I") (by decide +kernel)) (fun _ h9 => h9) rfl hnm rfl rfl rfl (Nat.le_of_ble_eq_true rfl) dX6_init_140 e_put (fun H16 locs16 hD16 => ?_)
  replace hD16 : zW D S0 (eR (N + 17) (va_up (va_up (va_up B15 a (some (.inr (6, [.ref N, .ref (N + 1), .ref (N + 2), .ref (N + 3), .ref (N + 4), .ref (N + 5), .ref (N + 6), .int 0, .ref (N + 7), .ref (N + 8), .ref (N + 9), .ref (N + 10), .ref (N + 11), .ref (N + 12), .ref (N + 13), .int 0, .ref (N + 14), .ref (N + 15), .null, .int 0, .null, .null, .int 0, .int 0])))) (N + 16) (some (.inl (D.2.1, 4000, .inl (fun _ => 0))))) a (some (.inr (6, [.ref N, .ref (N + 1), .ref (N + 2), .ref (N + 3), .ref (N + 4), .ref (N + 5), .ref (N + 6), .int 0, .ref (N + 7), .ref (N + 8), .ref (N + 9), .ref (N + 10), .ref (N + 11), .ref (N + 12), .ref (N + 13), .int 0, .ref (N + 14), .ref (N + 15), .ref (N + 16), .int 0, .null, .null, .int 0, .int 0]))))) s.heap H16 locs16 := hD16
  rw [e_re _ _ _ _ _ _ ha16] at hD16
  obtain ⟨B16, eB16⟩ : ∃ y, y = va_up B15 (N + 16) (some (.inl (D.2.1, 4000, .inl (fun _ => 0)))) := ⟨_, rfl⟩
  rw [← eB16] at hD16
  have hg16 : (va_up B16 a (some (.inr (6, [.ref N, .ref (N + 1), .ref (N + 2), .ref (N + 3), .ref (N + 4), .ref (N + 5), .ref (N + 6), .int 0, .ref (N + 7), .ref (N + 8), .ref (N + 9), .ref (N + 10), .ref (N + 11), .ref (N + 12), .ref (N + 13), .int 0, .ref (N + 14), .ref (N + 15), .ref (N + 16), .int 0, .null, .null, .int 0, .int 0])))) a = (some (.inr (6, [.ref N, .ref (N + 1), .ref (N + 2), .ref (N + 3), .ref (N + 4), .ref (N + 5), .ref (N + 6), .int 0, .ref (N + 7), .ref (N + 8), .ref (N + 9), .ref (N + 10), .ref (N + 11), .ref (N + 12), .ref (N + 13), .int 0, .ref (N + 14), .ref (N + 15), .ref (N + 16), .int 0, .null, .null, .int 0, .int 0]))) := va_up_self _ _ _
  refine lv_aload_n hx hb dX6_init_143 rfl (lv_at hl 0 rfl) ?_
  refine lv_bipush (v := 36) hx hb dX6_init_144 (by decide) ?_
  refine zw_newi (N' := 36) hx hb (hts (.arrayClass .int) (by decide +kernel)) hE.1 hD16 hs0 (by decide) (by decide) (by decide) (by show _ ≤ _; exact Nat.le_of_ble_eq_true rfl) (by show _ ≤ _; exact Nat.le_of_ble_eq_true rfl) dX6_init_146 (fun q17 H17 hA17 _ => ?_)
  obtain ⟨eq17, hN17, hB17⟩ := e_new hA17
  subst eq17
  have ha17 := e_ob hg16 hN17
  have hc17 := (va_up_ne (va_up B16 a (some (.inr (6, [.ref N, .ref (N + 1), .ref (N + 2), .ref (N + 3), .ref (N + 4), .ref (N + 5), .ref (N + 6), .int 0, .ref (N + 7), .ref (N + 8), .ref (N + 9), .ref (N + 10), .ref (N + 11), .ref (N + 12), .ref (N + 13), .int 0, .ref (N + 14), .ref (N + 15), .ref (N + 16), .int 0, .null, .null, .int 0, .int 0])))) (some (.inl (D.2.1, 36, .inl (fun _ => 0)))) ha17).trans hg16
  refine zw_putF (C := RX6) (T := TX6) (N := 24) hx hb hts hin0 tyX6 tyX6_ok nmX6 hown hE.1 hB17 (e_at hc17) rfl 20 (by decide) (hts (.fieldLink RX6 61 "UnionListModel" "debt" "[I") (by decide +kernel)) (fun _ h9 => h9) rfl hnm rfl rfl rfl (Nat.le_of_ble_eq_true rfl) dX6_init_148 e_put (fun H17 locs17 hD17 => ?_)
  replace hD17 : zW D S0 (eR (N + 18) (va_up (va_up (va_up B16 a (some (.inr (6, [.ref N, .ref (N + 1), .ref (N + 2), .ref (N + 3), .ref (N + 4), .ref (N + 5), .ref (N + 6), .int 0, .ref (N + 7), .ref (N + 8), .ref (N + 9), .ref (N + 10), .ref (N + 11), .ref (N + 12), .ref (N + 13), .int 0, .ref (N + 14), .ref (N + 15), .ref (N + 16), .int 0, .null, .null, .int 0, .int 0])))) (N + 17) (some (.inl (D.2.1, 36, .inl (fun _ => 0))))) a (some (.inr (6, [.ref N, .ref (N + 1), .ref (N + 2), .ref (N + 3), .ref (N + 4), .ref (N + 5), .ref (N + 6), .int 0, .ref (N + 7), .ref (N + 8), .ref (N + 9), .ref (N + 10), .ref (N + 11), .ref (N + 12), .ref (N + 13), .int 0, .ref (N + 14), .ref (N + 15), .ref (N + 16), .int 0, .ref (N + 17), .null, .int 0, .int 0]))))) s.heap H17 locs17 := hD17
  rw [e_re _ _ _ _ _ _ ha17] at hD17
  obtain ⟨B17, eB17⟩ : ∃ y, y = va_up B16 (N + 17) (some (.inl (D.2.1, 36, .inl (fun _ => 0)))) := ⟨_, rfl⟩
  rw [← eB17] at hD17
  have hg17 : (va_up B17 a (some (.inr (6, [.ref N, .ref (N + 1), .ref (N + 2), .ref (N + 3), .ref (N + 4), .ref (N + 5), .ref (N + 6), .int 0, .ref (N + 7), .ref (N + 8), .ref (N + 9), .ref (N + 10), .ref (N + 11), .ref (N + 12), .ref (N + 13), .int 0, .ref (N + 14), .ref (N + 15), .ref (N + 16), .int 0, .ref (N + 17), .null, .int 0, .int 0])))) a = (some (.inr (6, [.ref N, .ref (N + 1), .ref (N + 2), .ref (N + 3), .ref (N + 4), .ref (N + 5), .ref (N + 6), .int 0, .ref (N + 7), .ref (N + 8), .ref (N + 9), .ref (N + 10), .ref (N + 11), .ref (N + 12), .ref (N + 13), .int 0, .ref (N + 14), .ref (N + 15), .ref (N + 16), .int 0, .ref (N + 17), .null, .int 0, .int 0]))) := va_up_self _ _ _
  refine lv_aload_n hx hb dX6_init_151 rfl (lv_at hl 0 rfl) ?_
  refine lv_bipush (v := 6) hx hb dX6_init_152 (by decide) ?_
  refine zw_newi (N' := 6) hx hb (hts (.arrayClass .int) (by decide +kernel)) hE.1 hD17 hs0 (by decide) (by decide) (by decide) (by show _ ≤ _; exact Nat.le_of_ble_eq_true rfl) (by show _ ≤ _; exact Nat.le_of_ble_eq_true rfl) dX6_init_154 (fun q18 H18 hA18 _ => ?_)
  obtain ⟨eq18, hN18, hB18⟩ := e_new hA18
  subst eq18
  have ha18 := e_ob hg17 hN18
  have hc18 := (va_up_ne (va_up B17 a (some (.inr (6, [.ref N, .ref (N + 1), .ref (N + 2), .ref (N + 3), .ref (N + 4), .ref (N + 5), .ref (N + 6), .int 0, .ref (N + 7), .ref (N + 8), .ref (N + 9), .ref (N + 10), .ref (N + 11), .ref (N + 12), .ref (N + 13), .int 0, .ref (N + 14), .ref (N + 15), .ref (N + 16), .int 0, .ref (N + 17), .null, .int 0, .int 0])))) (some (.inl (D.2.1, 6, .inl (fun _ => 0)))) ha18).trans hg17
  refine zw_putF (C := RX6) (T := TX6) (N := 24) hx hb hts hin0 tyX6 tyX6_ok nmX6 hown hE.1 hB18 (e_at hc18) rfl 21 (by decide) (hts (.fieldLink RX6 64 "UnionListModel" "spared" "[I") (by decide +kernel)) (fun _ h9 => h9) rfl hnm rfl rfl rfl (Nat.le_of_ble_eq_true rfl) dX6_init_156 e_put (fun H18 locs18 hD18 => ?_)
  replace hD18 : zW D S0 (eR (N + 19) (va_up (va_up (va_up B17 a (some (.inr (6, [.ref N, .ref (N + 1), .ref (N + 2), .ref (N + 3), .ref (N + 4), .ref (N + 5), .ref (N + 6), .int 0, .ref (N + 7), .ref (N + 8), .ref (N + 9), .ref (N + 10), .ref (N + 11), .ref (N + 12), .ref (N + 13), .int 0, .ref (N + 14), .ref (N + 15), .ref (N + 16), .int 0, .ref (N + 17), .null, .int 0, .int 0])))) (N + 18) (some (.inl (D.2.1, 6, .inl (fun _ => 0))))) a (some (.inr (6, [.ref N, .ref (N + 1), .ref (N + 2), .ref (N + 3), .ref (N + 4), .ref (N + 5), .ref (N + 6), .int 0, .ref (N + 7), .ref (N + 8), .ref (N + 9), .ref (N + 10), .ref (N + 11), .ref (N + 12), .ref (N + 13), .int 0, .ref (N + 14), .ref (N + 15), .ref (N + 16), .int 0, .ref (N + 17), .ref (N + 18), .int 0, .int 0]))))) s.heap H18 locs18 := hD18
  rw [e_re _ _ _ _ _ _ ha18] at hD18
  obtain ⟨B18, eB18⟩ : ∃ y, y = va_up B17 (N + 18) (some (.inl (D.2.1, 6, .inl (fun _ => 0)))) := ⟨_, rfl⟩
  rw [← eB18] at hD18
  have hg18 : (va_up B18 a (some (.inr (6, [.ref N, .ref (N + 1), .ref (N + 2), .ref (N + 3), .ref (N + 4), .ref (N + 5), .ref (N + 6), .int 0, .ref (N + 7), .ref (N + 8), .ref (N + 9), .ref (N + 10), .ref (N + 11), .ref (N + 12), .ref (N + 13), .int 0, .ref (N + 14), .ref (N + 15), .ref (N + 16), .int 0, .ref (N + 17), .ref (N + 18), .int 0, .int 0])))) a = (some (.inr (6, [.ref N, .ref (N + 1), .ref (N + 2), .ref (N + 3), .ref (N + 4), .ref (N + 5), .ref (N + 6), .int 0, .ref (N + 7), .ref (N + 8), .ref (N + 9), .ref (N + 10), .ref (N + 11), .ref (N + 12), .ref (N + 13), .int 0, .ref (N + 14), .ref (N + 15), .ref (N + 16), .int 0, .ref (N + 17), .ref (N + 18), .int 0, .int 0]))) := va_up_self _ _ _
  have eG : (va_up B18 a (some (.inr (6, [.ref N, .ref (N + 1), .ref (N + 2), .ref (N + 3), .ref (N + 4), .ref (N + 5), .ref (N + 6), .int 0, .ref (N + 7), .ref (N + 8), .ref (N + 9), .ref (N + 10), .ref (N + 11), .ref (N + 12), .ref (N + 13), .int 0, .ref (N + 14), .ref (N + 15), .ref (N + 16), .int 0, .ref (N + 17), .ref (N + 18), .int 0, .int 0])))) = gI6 D g a N := by
    unfold gI6
    rw [eB18, eB17, eB16, eB15, eB14, eB13, eB12, eB11, eB10, eB9, eB8, eB7, eB6, eB5, eB4, eB3, eB2, eB1, eB0]
  rw [eG] at hD18
  exact z_vret (u := (N + 19, gI6 D g a N)) hx hb hr hlocks hD18 rfl dX6_init_159
