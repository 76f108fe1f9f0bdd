/-! THE START: the constructors of the post and of the class -/
def gI2 (D : zD) (g : zF) (a N : Nat) : zF := va_up (va_up (va_up g N (some (.inl (D.2.2.2.2.1, 552, .inr (.inr (.inr (.inr (fun _ => none)))))))) a (some (.inr (2, [.ref N, .int 0])))) a (some (.inr (2, [.ref N, .int 0])))
set_option maxHeartbeats 8000000 in
set_option maxRecDepth 100000 in
theorem cX2_init_ok (l : Launch) (hlt : l.stackTraces = false) (D : zD) (S0 : Nat) (a N : Nat) (g : zF) (hg : g a = some (.inr (2, [.null, .int 0]))) : Met l yX2_init wsX2_init { frames := 2, cells := 1, slots := 552, locals := 44 } (zPc2 D S0 (eR N g) [.ref a, .int 552]) (va_Qv (fun u => u = (N + 1, gI2 D g a N)) (zB D S0 (fun u => eR u.1 u.2)) (zA S0)) 1 552 (zA S0) := by
  refine zMet2 (cc := cX2_init) (maxL := 2) (ret := none) (by decide) rfl (Nat.le_of_ble_eq_true rfl) (fun p e s m args below meth c ls hx hb hr hml hown hts hlocks hnm hs hE hW hl => ?_)
  have hs0 : S0 ≤ s.heap.size := hs
  have hin2 := hin_X2_init_2
  replace hl : lv_has ls 2 [(0, .ref a), (1, .int 552)] := hl
  refine lv_aload_n hx hb dX2_init_0 rfl (lv_at hl 0 rfl) ?_
  refine W.objInit hx hb hown (hts (.methodLink RX2 1 objectInit) (by decide +kernel)) (hts (.instanceMethod objectInit) (by decide +kernel)) (hts (.code objectInit ⟨#[0xb1]⟩ 1 none) (by decide +kernel)) rfl (by rw [hml]; exact hl.1) rfl dX2_init_1 (Nat.le_of_ble_eq_true rfl) (Nat.le_of_ble_eq_true rfl) ?_
  refine W.eq (g2 := F0 m 4 ls []) rfl ?_
  refine lv_aload_n hx hb dX2_init_4 rfl (lv_at hl 0 rfl) ?_
  refine lv_iconst (v := 0) hx hb dX2_init_5 (by decide) ?_
  refine lv_iload_n hx hb dX2_init_6 rfl (lv_at hl 1 rfl) ?_
  refine va_mmax hx hb (hml.trans hl.1.symm) hown (hts (.methodLink RX2 7 Lib.Math.max.name) (by decide +kernel)) (hts (.static Lib.Math.max.name) (by decide +kernel)) (hts (.initialized "java/lang/Math") (by decide +kernel)) (hts (.code Lib.Math.max.name Lib.Math.max.code 2 (some .int)) (by decide +kernel)) (Nat.le_of_ble_eq_true rfl) (Nat.le_of_ble_eq_true rfl) (Nat.le_of_ble_eq_true rfl) (Nat.le_of_ble_eq_true rfl) dX2_init_7 ?_
  refine zw_newq (C := RX4) (N' := 552) hx hb hown (hts (.classLink RX2 13 RX4) (by decide +kernel)) (ov_use (hE.2 RX4 (by decide))) hE.1.1 hW hs0 3 rfl (by decide) (by decide) (by decide) (Nat.le_of_ble_eq_true rfl) (Nat.le_of_ble_eq_true rfl) dX2_init_10 (fun q0 H0 hA0 _ => ?_)
  obtain ⟨eq0, hN0, hB0⟩ := e_new hA0
  subst eq0
  have ha0 := e_ob hg hN0
  have hc0 := (va_up_ne g (some (.inl (D.2.2.2.2.1, 552, .inr (.inr (.inr (.inr (fun _ => none))))))) ha0).trans hg
  refine zw_putF (C := RX2) (T := TX2) (N := 2) hx hb hts hin2 tyX2 tyX2_ok nmX2 hown hE.1.1 hB0 (e_at hc0) rfl 0 (by decide) (hts (.fieldLink RX2 15 "UnionList$Post" "waiting" "[LUnionList$Sent;") (by decide +kernel)) (fun _ h9 => h9) rfl hnm rfl rfl rfl (Nat.le_of_ble_eq_true rfl) dX2_init_13 e_put (fun H1 locs1 hD0 => ?_)
  have hg0 := va_up_self (va_up g N (some (.inl (D.2.2.2.2.1, 552, .inr (.inr (.inr (.inr (fun _ => none)))))))) a (some ((.inr (2, [.ref N, .int 0])) : va_E))
  refine lv_aload_n hx hb dX2_init_16 rfl (lv_at hl 0 rfl) ?_
  refine lv_iconst (v := 0) hx hb dX2_init_17 (by decide) ?_
  refine zw_put (C := RX2) (T := TX2) (N := 2) hx hb hts hin2 tyX2 tyX2_ok nmX2 hown hE.1.1 hD0 (e_at hg0) rfl 1 (by decide) (hts (.fieldLink RX2 21 "UnionList$Post" "size" "I") (by decide +kernel)) (fun _ h9 => h9) rfl rfl rfl (Nat.le_of_ble_eq_true rfl) dX2_init_18 e_put (fun H2 locs2 hD1 => ?_)
  exact z_vret (u := (N + 1, gI2 D g a N)) hx hb hr hlocks hD1 rfl dX2_init_21
theorem gI2_ne (D : zD) {g : zF} {a q : Nat} (N : Nat) {x : Option va_E} (h1 : q ≠ a) (h2 : ∀ j, j < 3 → q ≠ N + j) (h : g q = x) : gI2 D g a N q = x := by
  unfold gI2
  rw [va_up_ne _ _ h1, va_up_ne _ _ h1, va_up_ne _ _ (show q ≠ N from h2 0 (by omega))]
  exact h
theorem gI0_ne (D : zD) {g : zF} {a q : Nat} (N : Nat) {x : Option va_E} (h1 : q ≠ a) (h2 : ∀ j, j < 3 → q ≠ N + j) (h : g q = x) : gI0 D g a N q = x := by
  unfold gI0
  rw [va_up_ne _ _ h1, va_up_ne _ _ (h2 2 (by omega)), va_up_ne _ _ (h2 1 (by omega)), va_up_ne _ _ (show q ≠ N from h2 0 (by omega))]
  exact h
def gI5 (D : zD) (g : zF) (a N : Nat) : zF := (va_up (va_up (va_up (va_up (gI0 D (va_up (va_up (gI2 D (va_up (va_up (va_up (va_up (va_up g N (some (.inl (D.2.2.1, 20, .inr (.inr (.inr (.inr (fun _ => none)))))))) a (some (.inr (5, [.ref N, .null, .null, .null, .int 0, .int 0, .int 0])))) (N + 1) (some (.inl (D.2.2.2.1, 40, .inr (.inr (.inr (.inr (fun _ => none)))))))) a (some (.inr (5, [.ref N, .ref (N + 1), .null, .null, .int 0, .int 0, .int 0])))) (N + 2) (some (.inr (2, [.null, .int 0])))) (N + 2) (N + 3)) a (some (.inr (5, [.ref N, .ref (N + 1), .ref (N + 2), .null, .int 0, .int 0, .int 0])))) (N + 4) (some (.inr (0, [.null, .null, .null])))) (N + 4) (N + 5)) a (some (.inr (5, [.ref N, .ref (N + 1), .ref (N + 2), .ref (N + 4), .int 0, .int 0, .int 0])))) a (some (.inr (5, [.ref N, .ref (N + 1), .ref (N + 2), .ref (N + 4), .int 0, .int 0, .int 0])))) a (some (.inr (5, [.ref N, .ref (N + 1), .ref (N + 2), .ref (N + 4), .int 0, .int 0, .int 0])))) a (some (.inr (5, [.ref N, .ref (N + 1), .ref (N + 2), .ref (N + 4), .int 0, .int 0, .int 0]))))
set_option maxHeartbeats 8000000 in
set_option maxRecDepth 100000 in
theorem cX5_init_ok (l : Launch) (hlt : l.stackTraces = false) (D : zD) (S0 : Nat) (a N : Nat) (g : zF) (haN : ∀ x, N ≤ x → a ≠ x) (hg : g a = some (.inr (5, [.null, .null, .null, .null, .int 0, .int 0, .int 0]))) : Met l yX5_init wsX5_init { frames := 3, cells := 8, slots := 665, locals := 69 } (zPc2 D S0 (eR N g) [.ref a]) (va_Qv (fun u => u = (N + 8, gI5 D g a N)) (zB D S0 (fun u => eR u.1 u.2)) (zA S0)) 8 665 (zA S0) := by
  refine zMet2 (cc := cX5_init) (maxL := 1) (ret := none) (by decide) rfl (Nat.le_of_ble_eq_true rfl) (fun p e s m args below meth c ls hx hb hr hml hown hts hlocks hnm hs hE hW hl => ?_)
  have hs0 : S0 ≤ s.heap.size := hs
  have hin5 := hin_X5_init_5
  replace hl : lv_has ls 1 [(0, .ref a)] := hl
  refine lv_aload_n hx hb dX5_init_0 rfl (lv_at hl 0 rfl) ?_
  refine W.objInit hx hb hown (hts (.methodLink RX5 1 objectInit) (by decide +kernel)) (hts (.instanceMethod objectInit) (by decide +kernel)) (hts (.code objectInit ⟨#[0xb1]⟩ 1 none) (by decide +kernel)) rfl (by rw [hml]; exact hl.1) rfl dX5_init_1 (Nat.le_of_ble_eq_true rfl) (Nat.le_of_ble_eq_true rfl) ?_
  refine W.eq (g2 := F0 m 4 ls []) rfl ?_
  refine lv_aload_n hx hb dX5_init_4 rfl (lv_at hl 0 rfl) ?_
  refine lv_bipush (v := 20) hx hb dX5_init_5 (by decide) ?_
  refine zw_newq (C := RX1) (N' := 20) hx hb hown (hts (.classLink RX5 9 RX1) (by decide +kernel)) (ov_use (hE.2 RX1 (by decide))) hE.1.1 hW hs0 1 rfl (by decide) (by decide) (by decide) (by show _ ≤ _; exact Nat.le_of_ble_eq_true rfl) (by show _ ≤ _; exact Nat.le_of_ble_eq_true rfl) dX5_init_7 (fun q0 H0 hA0 _ => ?_)
  obtain ⟨eq0, hN0, hB0⟩ := e_new hA0
  subst eq0
  have ha0 := e_ob hg hN0
  have hc0 := (va_up_ne g (some (.inl (D.2.2.1, 20, .inr (.inr (.inr (.inr (fun _ => none))))))) ha0).trans hg
  refine zw_putF (C := RX5) (T := TX5) (N := 7) hx hb hts hin5 tyX5 tyX5_ok nmX5 hown hE.1.1 hB0 (e_at hc0) rfl 0 (by decide) (hts (.fieldLink RX5 11 "UnionList" "copies" "[LUnionList$Copy;") (by decide +kernel)) (fun _ h9 => h9) rfl hnm rfl rfl rfl (Nat.le_of_ble_eq_true rfl) dX5_init_10 e_put (fun H0 locs0 hD0 => ?_)
  obtain ⟨G0, eG0⟩ : ∃ y : zF, y = (va_up (va_up g N (some (.inl (D.2.2.1, 20, .inr (.inr (.inr (.inr (fun _ => none)))))))) a (some (.inr (5, [.ref N, .null, .null, .null, .int 0, .int 0, .int 0])))) := ⟨_, rfl⟩
  replace hD0 : zW D S0 (eR (N + 1) G0) s.heap H0 locs0 := by rw [eG0]; exact hD0
  have hg0 : G0 a = (some (.inr (5, [.ref N, .null, .null, .null, .int 0, .int 0, .int 0]))) := by rw [eG0]; exact va_up_self _ _ _
  refine lv_aload_n hx hb dX5_init_13 rfl (lv_at hl 0 rfl) ?_
  refine lv_bipush (v := 40) hx hb dX5_init_14 (by decide) ?_
  refine zw_newq (C := RX3) (N' := 40) hx hb hown (hts (.classLink RX5 15 RX3) (by decide +kernel)) (ov_use (hE.2 RX3 (by decide))) hE.1.1 hD0 hs0 2 rfl (by decide) (by decide) (by decide) (by show _ ≤ _; exact Nat.le_of_ble_eq_true rfl) (by show _ ≤ _; exact Nat.le_of_ble_eq_true rfl) dX5_init_16 (fun q1 H1 hA1 _ => ?_)
  obtain ⟨eq1, hN1, hB1⟩ := e_new hA1
  subst eq1
  have ha1 := e_ob hg0 hN1
  have hc1 := (va_up_ne G0 (some (.inl (D.2.2.2.1, 40, .inr (.inr (.inr (.inr (fun _ => none))))))) ha1).trans hg0
  refine zw_putF (C := RX5) (T := TX5) (N := 7) hx hb hts hin5 tyX5 tyX5_ok nmX5 hown hE.1.1 hB1 (e_at hc1) rfl 1 (by decide) (hts (.fieldLink RX5 17 "UnionList" "requests" "[LUnionList$Request;") (by decide +kernel)) (fun _ h9 => h9) rfl hnm rfl rfl rfl (Nat.le_of_ble_eq_true rfl) dX5_init_19 e_put (fun H1 locs1 hD1 => ?_)
  obtain ⟨G1, eG1⟩ : ∃ y : zF, y = (va_up (va_up G0 (N + 1) (some (.inl (D.2.2.2.1, 40, .inr (.inr (.inr (.inr (fun _ => none)))))))) a (some (.inr (5, [.ref N, .ref (N + 1), .null, .null, .int 0, .int 0, .int 0])))) := ⟨_, rfl⟩
  replace hD1 : zW D S0 (eR (N + 2) G1) s.heap H1 locs1 := by rw [eG1]; exact hD1
  have hg1 : G1 a = (some (.inr (5, [.ref N, .ref (N + 1), .null, .null, .int 0, .int 0, .int 0]))) := by rw [eG1]; exact va_up_self _ _ _
  refine lv_aload_n hx hb dX5_init_22 rfl (lv_at hl 0 rfl) ?_
  refine zw_new (ci := 2) (C := RX2) (T := TX2) (N := 2) (fs := [.null, .int 0]) hx hb hts hin_X5_init_2 tyX2 tyX2_ok hown (hts (.classLink RX5 21 RX2) (by decide +kernel)) (hts (.instantiable RX2 2) (by decide +kernel)) (hts (.initialized RX2) (by decide +kernel)) hE.1.1 hD1 hs0 rfl (fun j hj => by rcases (show j = 0 ∨ j = 1 by omega) with rfl | rfl <;> rfl) (by show _ ≤ _; exact Nat.le_of_ble_eq_true rfl) (by show _ ≤ _; exact Nat.le_of_ble_eq_true rfl) dX5_init_23 (fun q2 H2 hA2 _ => ?_)
  obtain ⟨eq2, hN2, hB2⟩ := e_new hA2
  subst eq2
  have ha2 := e_ob hg1 hN2
  refine lv_dup hx hb dX5_init_26 rfl ?_
  refine lv_sipush (v := 552) hx hb dX5_init_27 (by decide) ?_
  refine zc_v (va_runI (As := [.int 552]) (rest := [.ref (N + 2), .ref a]) ⟨hx, hb, hml, hown, hts⟩ (cX2_init_ok l hlt D S0 (N + 2) (N + 3) _ (va_up_self _ _ _)) (cwI 1 hts gX5_init_X2_init rfl rfl rfl (hts (.initialized RX2) (by decide +kernel)) (hts (.methodLink RX5 23 yX2_init) (by decide +kernel)) (hts (.instanceMethod yX2_init) (by decide +kernel)) rfl (by decide +kernel) ⟨Nat.le_of_ble_eq_true rfl, Nat.le_of_ble_eq_true rfl⟩) (zpreS2 hE hs0 hB2) rfl rfl hl.1 rfl (lv_room (Nat.le_of_ble_eq_true rfl)) dX5_init_30 ⟨by show _ ≤ _; exact Nat.le_of_ble_eq_true rfl, by show _ ≤ _; exact Nat.le_of_ble_eq_true rfl⟩) hB2 (fun u2 H2 locs2 eu2 hC2 => ?_)
  subst eu2
  replace hC2 : zW D S0 (eR (N + 3 + 1) (gI2 D (va_up G1 (N + 2) (some (.inr (2, [.null, .int 0])))) (N + 2) (N + 3))) s.heap H2 locs2 := hC2
  have hc2 : (gI2 D (va_up G1 (N + 2) (some (.inr (2, [.null, .int 0])))) (N + 2) (N + 3)) a = (some (.inr (5, [.ref N, .ref (N + 1), .null, .null, .int 0, .int 0, .int 0]))) := gI2_ne D (N + 3) ha2 (fun j hj => haN (N + 3 + j) (by omega)) ((va_up_ne _ _ ha2).trans hg1)
  refine zw_putF (C := RX5) (T := TX5) (N := 7) hx hb hts hin5 tyX5 tyX5_ok nmX5 hown hE.1.1 hC2 (e_at hc2) rfl 2 (by decide) (hts (.fieldLink RX5 26 "UnionList" "post" "LUnionList$Post;") (by decide +kernel)) (fun _ h9 => h9) rfl hnm rfl rfl rfl (Nat.le_of_ble_eq_true rfl) dX5_init_33 e_put (fun H2 locs2 hD2 => ?_)
  obtain ⟨G2, eG2⟩ : ∃ y : zF, y = (va_up (gI2 D (va_up G1 (N + 2) (some (.inr (2, [.null, .int 0])))) (N + 2) (N + 3)) a (some (.inr (5, [.ref N, .ref (N + 1), .ref (N + 2), .null, .int 0, .int 0, .int 0])))) := ⟨_, rfl⟩
  replace hD2 : zW D S0 (eR (N + 4) G2) s.heap H2 locs2 := by rw [eG2]; exact hD2
  have hg2 : G2 a = (some (.inr (5, [.ref N, .ref (N + 1), .ref (N + 2), .null, .int 0, .int 0, .int 0]))) := by rw [eG2]; exact va_up_self _ _ _
  refine lv_aload_n hx hb dX5_init_36 rfl (lv_at hl 0 rfl) ?_
  refine zw_new (ci := 0) (C := RX0) (T := TX0) (N := 3) (fs := [.null, .null, .null]) hx hb hts hin_X5_init_0 tyX0 tyX0_ok hown (hts (.classLink RX5 30 RX0) (by decide +kernel)) (hts (.instantiable RX0 3) (by decide +kernel)) (hts (.initialized RX0) (by decide +kernel)) hE.1.1 hD2 hs0 rfl (fun j hj => by rcases (show j = 0 ∨ j = 1 ∨ j = 2 by omega) with rfl | rfl | rfl <;> rfl) (by show _ ≤ _; exact Nat.le_of_ble_eq_true rfl) (by show _ ≤ _; exact Nat.le_of_ble_eq_true rfl) dX5_init_37 (fun q3 H3 hA3 _ => ?_)
  obtain ⟨eq3, hN3, hB3⟩ := e_new hA3
  subst eq3
  have ha3 := e_ob hg2 hN3
  refine lv_dup hx hb dX5_init_40 rfl ?_
  refine zc_v (va_runI (As := []) (rest := [.ref (N + 4), .ref a]) ⟨hx, hb, hml, hown, hts⟩ (cX0_init_ok l hlt D S0 (N + 4) (N + 5) _ (va_up_self _ _ _)) (cwI 0 hts gX5_init_X0_init rfl rfl rfl (hts (.initialized RX0) (by decide +kernel)) (hts (.methodLink RX5 32 yX0_init) (by decide +kernel)) (hts (.instanceMethod yX0_init) (by decide +kernel)) rfl (by decide +kernel) ⟨Nat.le_of_ble_eq_true rfl, Nat.le_of_ble_eq_true rfl⟩) (zpreS hE.1 hs0 hB3) rfl rfl hl.1 rfl (lv_room (Nat.le_of_ble_eq_true rfl)) dX5_init_41 ⟨by show _ ≤ _; exact Nat.le_of_ble_eq_true rfl, by show _ ≤ _; exact Nat.le_of_ble_eq_true rfl⟩) hB3 (fun u3 H3 locs3 eu3 hC3 => ?_)
  subst eu3
  replace hC3 : zW D S0 (eR (N + 5 + 3) (gI0 D (va_up G2 (N + 4) (some (.inr (0, [.null, .null, .null])))) (N + 4) (N + 5))) s.heap H3 locs3 := hC3
  have hc3 : (gI0 D (va_up G2 (N + 4) (some (.inr (0, [.null, .null, .null])))) (N + 4) (N + 5)) a = (some (.inr (5, [.ref N, .ref (N + 1), .ref (N + 2), .null, .int 0, .int 0, .int 0]))) := gI0_ne D (N + 5) ha3 (fun j hj => haN (N + 5 + j) (by omega)) ((va_up_ne _ _ ha3).trans hg2)
  refine zw_putF (C := RX5) (T := TX5) (N := 7) hx hb hts hin5 tyX5 tyX5_ok nmX5 hown hE.1.1 hC3 (e_at hc3) rfl 3 (by decide) (hts (.fieldLink RX5 33 "UnionList" "accounts" "LUnionList$Accounts;") (by decide +kernel)) (fun _ h9 => h9) rfl hnm rfl rfl rfl (Nat.le_of_ble_eq_true rfl) dX5_init_44 e_put (fun H3 locs3 hD3 => ?_)
  obtain ⟨G3, eG3⟩ : ∃ y : zF, y = (va_up (gI0 D (va_up G2 (N + 4) (some (.inr (0, [.null, .null, .null])))) (N + 4) (N + 5)) a (some (.inr (5, [.ref N, .ref (N + 1), .ref (N + 2), .ref (N + 4), .int 0, .int 0, .int 0])))) := ⟨_, rfl⟩
  replace hD3 : zW D S0 (eR (N + 8) G3) s.heap H3 locs3 := by rw [eG3]; exact hD3
  have hg3 : G3 a = (some (.inr (5, [.ref N, .ref (N + 1), .ref (N + 2), .ref (N + 4), .int 0, .int 0, .int 0]))) := by rw [eG3]; exact va_up_self _ _ _
  refine lv_aload_n hx hb dX5_init_47 rfl (lv_at hl 0 rfl) ?_
  refine lv_iconst (v := 0) hx hb dX5_init_48 (by decide) ?_
  refine zw_put (C := RX5) (T := TX5) (N := 7) hx hb hts hin5 tyX5 tyX5_ok nmX5 hown hE.1.1 hD3 (e_at hg3) rfl 4 (by decide) (hts (.fieldLink RX5 37 "UnionList" "copyCount" "I") (by decide +kernel)) (fun _ h9 => h9) rfl rfl rfl (Nat.le_of_ble_eq_true rfl) dX5_init_49 e_put (fun H4 locs4 hD4 => ?_)
  obtain ⟨G4, eG4⟩ : ∃ y : zF, y = (va_up G3 a (some (.inr (5, [.ref N, .ref (N + 1), .ref (N + 2), .ref (N + 4), .int 0, .int 0, .int 0])))) := ⟨_, rfl⟩
  replace hD4 : zW D S0 (eR (N + 8) G4) s.heap H4 locs4 := by rw [eG4]; exact hD4
  have hg4 : G4 a = (some (.inr (5, [.ref N, .ref (N + 1), .ref (N + 2), .ref (N + 4), .int 0, .int 0, .int 0]))) := by rw [eG4]; exact va_up_self _ _ _
  refine lv_aload_n hx hb dX5_init_52 rfl (lv_at hl 0 rfl) ?_
  refine lv_iconst (v := 0) hx hb dX5_init_53 (by decide) ?_
  refine zw_put (C := RX5) (T := TX5) (N := 7) hx hb hts hin5 tyX5 tyX5_ok nmX5 hown hE.1.1 hD4 (e_at hg4) rfl 5 (by decide) (hts (.fieldLink RX5 41 "UnionList" "requestCount" "I") (by decide +kernel)) (fun _ h9 => h9) rfl rfl rfl (Nat.le_of_ble_eq_true rfl) dX5_init_54 e_put (fun H5 locs5 hD5 => ?_)
  obtain ⟨G5, eG5⟩ : ∃ y : zF, y = (va_up G4 a (some (.inr (5, [.ref N, .ref (N + 1), .ref (N + 2), .ref (N + 4), .int 0, .int 0, .int 0])))) := ⟨_, rfl⟩
  replace hD5 : zW D S0 (eR (N + 8) G5) s.heap H5 locs5 := by rw [eG5]; exact hD5
  have hg5 : G5 a = (some (.inr (5, [.ref N, .ref (N + 1), .ref (N + 2), .ref (N + 4), .int 0, .int 0, .int 0]))) := by rw [eG5]; exact va_up_self _ _ _
  refine lv_aload_n hx hb dX5_init_57 rfl (lv_at hl 0 rfl) ?_
  refine lv_iconst (v := 0) hx hb dX5_init_58 (by decide) ?_
  refine zw_put (C := RX5) (T := TX5) (N := 7) hx hb hts hin5 tyX5 tyX5_ok nmX5 hown hE.1.1 hD5 (e_at hg5) rfl 6 (by decide) (hts (.fieldLink RX5 44 "UnionList" "day" "I") (by decide +kernel)) (fun _ h9 => h9) rfl rfl rfl (Nat.le_of_ble_eq_true rfl) dX5_init_59 e_put (fun H6 locs6 hD6 => ?_)
  obtain ⟨G6, eG6⟩ : ∃ y : zF, y = (va_up G5 a (some (.inr (5, [.ref N, .ref (N + 1), .ref (N + 2), .ref (N + 4), .int 0, .int 0, .int 0])))) := ⟨_, rfl⟩
  replace hD6 : zW D S0 (eR (N + 8) G6) s.heap H6 locs6 := by rw [eG6]; exact hD6
  have hg6 : G6 a = (some (.inr (5, [.ref N, .ref (N + 1), .ref (N + 2), .ref (N + 4), .int 0, .int 0, .int 0]))) := by rw [eG6]; exact va_up_self _ _ _
  have eF : G6 = gI5 D g a N := by
    unfold gI5
    rw [eG6, eG5, eG4, eG3, eG2, eG1, eG0]
  rw [eF] at hD6
  exact z_vret (u := (N + 8, gI5 D g a N)) hx hb hr hlocks hD6 rfl dX5_init_62
