def wX0_countHomeCopy (S0 : Nat) (k0 : kS) (p1 : Int32) (Q : kS → Prop) : Prop := (wX5_isHouse S0 k0 p1 (fun r1 k2 => ((r1 = 0 → Q k2) ∧ (¬ r1 = 0 → (vp_in p1 6 ∧ (vp_in p1 6 ∧ (∀ k6 : kS, k6 = kset k2 5 p1.toNatClampNeg ((k2.1 5 p1.toNatClampNeg) + 1) → Q k6)))))))
theorem hin_X0_countHomeCopy_0 : ∀ w ∈ u_ws RX0 TX0 3, w ∈ wsX0_countHomeCopy := by decide +kernel
set_option maxHeartbeats 8000000 in
set_option maxRecDepth 100000 in
theorem cX0_countHomeCopy_ok (l : Launch) (hlt : l.stackTraces = false) (D : zD) (S0 : Nat) (g : zF) (k0 : kS) (p1 : Int32)  (Q : kS → Prop) (h : wX0_countHomeCopy S0 k0 p1 Q) : Met l yX0_countHomeCopy wsX0_countHomeCopy { frames := 1, cells := 0, slots := 8 * (0), locals := 20 } (zPc D S0 (xR D S0 g k0 k0) [.ref (S0 + 5), .int p1]) (va_Qv Q (zB D S0 (fun u => xR D S0 g k0 u)) (zA S0)) (0) (8 * (0)) (zA S0) := by
  refine zMet (cc := cX0_countHomeCopy) (maxL := 2) (ret := none) (by decide) rfl (Nat.le_of_ble_eq_true rfl) (fun p e s m args below meth c ls hx hb hr hml hown hts hlocks hnm hs hE hW hl => ?_)
  have hsz := xW_sz hW
  have hs0 : S0 ≤ s.heap.size := hs
  have hin0 := hin_X0_countHomeCopy_0
  replace hl : lv_has ls 2 [(0, .ref (S0 + 5)), (1, .int p1)] := hl
  unfold wX0_countHomeCopy at h
  refine lv_iload_n hx hb dX0_countHomeCopy_0 rfl (lv_at hl 1 rfl) ?_
  have hle := xW_kle hW
  refine zc_i (va_runSN (As := [.int p1]) (rest := []) ⟨hx, hb, hml, hown, hts⟩ (cX5_isHouse_ok l hlt D S0 g k0 p1 _ h) ⟨va_cnB 1 hts gX0_countHomeCopy_X5_isHouse_n21 rfl rfl rfl hE.2.1 (hts (.initialized RX5) (by decide +kernel)) (by decide +kernel) ⟨Nat.le_of_ble_eq_true rfl, Nat.le_of_ble_eq_true rfl⟩, hts (.static yX5_isHouse) (by decide +kernel), trivial⟩ (zpreS hE hs (xW_start hW)) rfl rfl hl.1 rfl (lv_room (Nat.le_of_ble_eq_true rfl)) dX0_countHomeCopy_1 ⟨by show _ ≤ 0; omega, by show _ ≤ 8 * (0); omega⟩) hW (fun r1 k2 H locs h hW => ?_)
  obtain ⟨h, hz_r1⟩ := h
  replace hW := hW.mono (xR_tr hle)
  refine W.widen (k := 0) (n := 8 * (0)) (by omega) (by omega) ?_
  refine lv_if_eq (tgt := 17) hx hb dX0_countHomeCopy_4 (by decide) (fun c_3 => ?_) (fun c_3 => ?_)
  · replace h := h.1 c_3
    refine W.widen (k := 0) (n := 8 * (0)) (by omega) (by omega) ?_
    exact (z_vret hx hb hr hlocks hW h dX0_countHomeCopy_17)
  · replace h := h.2 c_3
    refine lv_aload_n hx hb dX0_countHomeCopy_7 rfl (lv_at hl 0 rfl) ?_
    refine zw_get (C := RX0) (T := TX0) (N := 3) hx hb hts hin0 hown hE.1 hW xC_A rfl 1 (by decide) (hts (.fieldLink RX0 15 "UnionList$Accounts" "homeCopies" "[I") (by decide +kernel)) (fun _ h9 => h9) rfl dX0_countHomeCopy_8 ?_
    refine lv_iload_n hx hb dX0_countHomeCopy_11 rfl (lv_at hl 1 rfl) ?_
    refine lv_dup2_11 hx hb dX0_countHomeCopy_12 rfl rfl ?_
    obtain ⟨hb_4, h⟩ := h
    refine zw_iald hx hb hE.1 hW xC_a5 hb_4 dX0_countHomeCopy_13 ?_
    refine lv_iconst (v := 1) hx hb dX0_countHomeCopy_14 (by decide) ?_
    refine lv_iadd hx hb dX0_countHomeCopy_15 ?_
    obtain ⟨hb_5, h⟩ := h
    refine zw_iast hx hb hE.1 hW xC_a5 hb_5 dX0_countHomeCopy_16 xP_a5 (fun H locs hW => ?_)
    obtain ⟨k6, ek6⟩ : ∃ y, y = kset k2 5 p1.toNatClampNeg ((k2.1 5 p1.toNatClampNeg) + 1) := ⟨_, rfl⟩
    rw [← ek6] at hW
    replace h := h k6 ek6
    refine W.widen (k := 0) (n := 8 * (0)) (by omega) (by omega) ?_
    exact (z_vret hx hb hr hlocks hW h dX0_countHomeCopy_17)

def wX0_beginQuarter_l2 (S0 : Nat) (Q : kS → Prop) : Nat → Int32 → kS → Prop
  | 0, _, _ => False
  | f3 + 1, x1, k2 => ((6 ≤ x1 → Q k2) ∧ (¬ 6 ≤ x1 → (vp_in x1 6 ∧ (∀ k6 : kS, k6 = kset k2 6 x1.toNatClampNeg 0 → (wX0_beginQuarter_l2 S0 Q f3 (x1 + 1) k6)))))
def wX0_beginQuarter (S0 : Nat) (k0 : kS) (Q : kS → Prop) : Prop := (∃ f7 : Nat, wX0_beginQuarter_l2 S0 Q f7 0 k0)
theorem hin_X0_beginQuarter_0 : ∀ w ∈ u_ws RX0 TX0 3, w ∈ wsX0_beginQuarter := by decide +kernel
set_option maxHeartbeats 8000000 in
set_option maxRecDepth 100000 in
theorem cX0_beginQuarter_ok (l : Launch) (hlt : l.stackTraces = false) (D : zD) (S0 : Nat) (g : zF) (k0 : kS)   (Q : kS → Prop) (h : wX0_beginQuarter S0 k0 Q) : Met l yX0_beginQuarter wsX0_beginQuarter { frames := 0, cells := 0, slots := 8 * (0), locals := 0 } (zPc D S0 (xR D S0 g k0 k0) [.ref (S0 + 5)]) (va_Qv Q (zB D S0 (fun u => xR D S0 g k0 u)) (zA S0)) (0) (8 * (0)) (zA S0) := by
  refine zMet (cc := cX0_beginQuarter) (maxL := 2) (ret := none) (by decide) rfl (Nat.le_of_ble_eq_true rfl) (fun p e s m args below meth c ls hx hb hr hml hown hts hlocks hnm hs hE hW hl => ?_)
  have hsz := xW_sz hW
  have hs0 : S0 ≤ s.heap.size := hs
  have hin0 := hin_X0_beginQuarter_0
  replace hl : lv_has ls 2 [(0, .ref (S0 + 5))] := hl
  unfold wX0_beginQuarter at h
  refine lv_iconst (v := 0) hx hb dX0_beginQuarter_0 (by decide) ?_
  refine lv_istore_n (lv' := [(1, .int 0), (0, .ref (S0 + 5))]) hx hb dX0_beginQuarter_1 rfl hl (by decide) rfl (fun ls hl => ?_)
  have lp2 : ∀ (f3 : Nat) (x1 : Int32) (k2 : kS) (H : Heap) (locs : List Loc) (ls : Array Slot), wX0_beginQuarter_l2 S0 Q f3 x1 k2 → zW D S0 (xR D S0 g k0 k2) s.heap H locs → lv_has ls 2 [(1, .int x1), (0, .ref (S0 + 5))] → W p l e { frames := 0, cells := 0, slots := 8 * (0), locals := 0 } s m args below meth c H locs (0) (8 * (0)) (MQ below (va_Qv Q (zB D S0 (fun u => xR D S0 g k0 u)) (zA S0)) args s (0) (8 * (0)) (zA S0)) (F0 m 2 ls []) := by
    intro f3
    induction f3 with
    | zero => intro x1 k2 H locs ls h; exact h.elim
    | succ f3 ih2 =>
      intro x1 k2 H locs ls h  hW hl
      unfold wX0_beginQuarter_l2 at h
      refine lv_iload_n hx hb dX0_beginQuarter_2 rfl (lv_at hl 0 rfl) ?_
      refine lv_aload_n hx hb dX0_beginQuarter_3 rfl (lv_at hl 1 rfl) ?_
      refine zw_get (C := RX0) (T := TX0) (N := 3) hx hb hts hin0 hown hE.1 hW xC_A rfl 2 (by decide) (hts (.fieldLink RX0 18 "UnionList$Accounts" "freeLoans" "[I") (by decide +kernel)) (fun _ h9 => h9) rfl dX0_beginQuarter_4 ?_
      refine zw_alen (v := 6) hx hb hE.1 hW 0 rfl xC_a6 rfl dX0_beginQuarter_7 ?_
      refine lv_icmp_ge (tgt := 24) hx hb dX0_beginQuarter_8 (by decide) (fun c_4 => ?_) (fun c_4 => ?_)
      · replace h := h.1 c_4
        refine W.widen (k := 0) (n := 8 * (0)) (by omega) (by omega) ?_
        exact (z_vret hx hb hr hlocks hW h dX0_beginQuarter_24)
      · replace h := h.2 c_4
        refine lv_aload_n hx hb dX0_beginQuarter_11 rfl (lv_at hl 1 rfl) ?_
        refine zw_get (C := RX0) (T := TX0) (N := 3) hx hb hts hin0 hown hE.1 hW xC_A rfl 2 (by decide) (hts (.fieldLink RX0 18 "UnionList$Accounts" "freeLoans" "[I") (by decide +kernel)) (fun _ h9 => h9) rfl dX0_beginQuarter_12 ?_
        refine lv_iload_n hx hb dX0_beginQuarter_15 rfl (lv_at hl 0 rfl) ?_
        refine lv_iconst (v := 0) hx hb dX0_beginQuarter_16 (by decide) ?_
        obtain ⟨hb_5, h⟩ := h
        refine zw_iast hx hb hE.1 hW xC_a6 hb_5 dX0_beginQuarter_17 xP_a6 (fun H locs hW => ?_)
        obtain ⟨k6, ek6⟩ : ∃ y, y = kset k2 6 x1.toNatClampNeg 0 := ⟨_, rfl⟩
        rw [← ek6] at hW
        replace h := h k6 ek6
        refine lv_iinc (v := (x1 + 1)) (lv' := [(1, .int (x1 + 1)), (0, .ref (S0 + 5))]) hx hb dX0_beginQuarter_18 hl (k := 0) rfl rfl (by decide) rfl (fun ls hl => ?_)
        refine lv_goto (tgt := 2) hx hb dX0_beginQuarter_21 (by decide) ?_
        exact ih2 (x1 + 1) k6 _ _ _ h  hW (lv_sub hl [0, 1] rfl)
  obtain ⟨f7, h⟩ := h
  exact lp2 f7 0 k0 _ _ _ h  hW (lv_sub hl [0, 1] rfl)

def wX0_freeLoansOf (S0 : Nat) (k0 : kS) (p1 : Int32) (Q : Int32 → kS → Prop) : Prop := (wX5_isHouse S0 k0 p1 (fun r1 k2 => ((r1 = 0 → Q 0 k2) ∧ (¬ r1 = 0 → (vp_in p1 6 ∧ Q (k2.1 6 p1.toNatClampNeg) k2)))))
theorem hin_X0_freeLoansOf_0 : ∀ w ∈ u_ws RX0 TX0 3, w ∈ wsX0_freeLoansOf := by decide +kernel
set_option maxHeartbeats 8000000 in
set_option maxRecDepth 100000 in
theorem cX0_freeLoansOf_ok (l : Launch) (hlt : l.stackTraces = false) (D : zD) (S0 : Nat) (g : zF) (k0 : kS) (p1 : Int32)  (Q : Int32 → kS → Prop) (h : wX0_freeLoansOf S0 k0 p1 Q) : Met l yX0_freeLoansOf wsX0_freeLoansOf { frames := 1, cells := 0, slots := 8 * (0), locals := 20 } (zPc D S0 (xR D S0 g k0 k0) [.ref (S0 + 5), .int p1]) (va_Qi Q (zB D S0 (fun u => xR D S0 g k0 u)) (zA S0)) (0) (8 * (0)) (zA S0) := by
  refine zMet (cc := cX0_freeLoansOf) (maxL := 2) (ret := (some .int)) (by decide) rfl (Nat.le_of_ble_eq_true rfl) (fun p e s m args below meth c ls hx hb hr hml hown hts hlocks hnm hs hE hW hl => ?_)
  have hsz := xW_sz hW
  have hs0 : S0 ≤ s.heap.size := hs
  have hin0 := hin_X0_freeLoansOf_0
  replace hl : lv_has ls 2 [(0, .ref (S0 + 5)), (1, .int p1)] := hl
  unfold wX0_freeLoansOf at h
  refine lv_iload_n hx hb dX0_freeLoansOf_0 rfl (lv_at hl 1 rfl) ?_
  have hle := xW_kle hW
  refine zc_i (va_runSN (As := [.int p1]) (rest := []) ⟨hx, hb, hml, hown, hts⟩ (cX5_isHouse_ok l hlt D S0 g k0 p1 _ h) ⟨va_cnB 1 hts gX0_freeLoansOf_X5_isHouse_n21 rfl rfl rfl hE.2.1 (hts (.initialized RX5) (by decide +kernel)) (by decide +kernel) ⟨Nat.le_of_ble_eq_true rfl, Nat.le_of_ble_eq_true rfl⟩, hts (.static yX5_isHouse) (by decide +kernel), trivial⟩ (zpreS hE hs (xW_start hW)) rfl rfl hl.1 rfl (lv_room (Nat.le_of_ble_eq_true rfl)) dX0_freeLoansOf_1 ⟨by show _ ≤ 0; omega, by show _ ≤ 8 * (0); omega⟩) hW (fun r1 k2 H locs h hW => ?_)
  obtain ⟨h, hz_r1⟩ := h
  replace hW := hW.mono (xR_tr hle)
  refine W.widen (k := 0) (n := 8 * (0)) (by omega) (by omega) ?_
  refine lv_if_eq (tgt := 16) hx hb dX0_freeLoansOf_4 (by decide) (fun c_3 => ?_) (fun c_3 => ?_)
  · replace h := h.1 c_3
    refine lv_iconst (v := 0) hx hb dX0_freeLoansOf_16 (by decide) ?_
    refine W.widen (k := 0) (n := 8 * (0)) (by omega) (by omega) ?_
    exact (z_iret hx hb hr hlocks hW h dX0_freeLoansOf_17)
  · replace h := h.2 c_3
    refine lv_aload_n hx hb dX0_freeLoansOf_7 rfl (lv_at hl 0 rfl) ?_
    refine zw_get (C := RX0) (T := TX0) (N := 3) hx hb hts hin0 hown hE.1 hW xC_A rfl 2 (by decide) (hts (.fieldLink RX0 18 "UnionList$Accounts" "freeLoans" "[I") (by decide +kernel)) (fun _ h9 => h9) rfl dX0_freeLoansOf_8 ?_
    refine lv_iload_n hx hb dX0_freeLoansOf_11 rfl (lv_at hl 1 rfl) ?_
    obtain ⟨hb_4, h⟩ := h
    refine zw_iald hx hb hE.1 hW xC_a6 hb_4 dX0_freeLoansOf_12 ?_
    refine lv_goto (tgt := 17) hx hb dX0_freeLoansOf_13 (by decide) ?_
    refine W.widen (k := 0) (n := 8 * (0)) (by omega) (by omega) ?_
    exact (z_iret hx hb hr hlocks hW h dX0_freeLoansOf_17)

def wX0_charge (S0 : Nat) (k0 : kS) (p1 : Int32) (p2 : Int32) (p3 : Int32) (Q : kS → Prop) : Prop := (wX5_isHouse S0 k0 p1 (fun r1 k2 => ((r1 = 0 → Q k2) ∧ (¬ r1 = 0 → (wX5_isHouse S0 k2 p2 (fun r4 k5 => ((r4 = 0 → Q k5) ∧ (¬ r4 = 0 → (vp_in ((p1 * 6) + p2) 36 ∧ (vp_in ((p1 * 6) + p2) 36 ∧ (∀ k9 : kS, k9 = kset k5 4 ((p1 * 6) + p2).toNatClampNeg ((k5.1 4 ((p1 * 6) + p2).toNatClampNeg) + p3) → Q k9)))))))))))
theorem hin_X0_charge_0 : ∀ w ∈ u_ws RX0 TX0 3, w ∈ wsX0_charge := by decide +kernel
set_option maxHeartbeats 8000000 in
set_option maxRecDepth 100000 in
theorem cX0_charge_ok (l : Launch) (hlt : l.stackTraces = false) (D : zD) (S0 : Nat) (g : zF) (k0 : kS) (p1 : Int32) (p2 : Int32) (p3 : Int32)  (Q : kS → Prop) (h : wX0_charge S0 k0 p1 p2 p3 Q) : Met l yX0_charge wsX0_charge { frames := 1, cells := 0, slots := 8 * (0), locals := 20 } (zPc D S0 (xR D S0 g k0 k0) [.ref (S0 + 5), .int p1, .int p2, .int p3]) (va_Qv Q (zB D S0 (fun u => xR D S0 g k0 u)) (zA S0)) (0) (8 * (0)) (zA S0) := by
  refine zMet (cc := cX0_charge) (maxL := 4) (ret := none) (by decide) rfl (Nat.le_of_ble_eq_true rfl) (fun p e s m args below meth c ls hx hb hr hml hown hts hlocks hnm hs hE hW hl => ?_)
  have hsz := xW_sz hW
  have hs0 : S0 ≤ s.heap.size := hs
  have hin0 := hin_X0_charge_0
  replace hl : lv_has ls 4 [(0, .ref (S0 + 5)), (1, .int p1), (2, .int p2), (3, .int p3)] := hl
  unfold wX0_charge at h
  refine lv_iload_n hx hb dX0_charge_0 rfl (lv_at hl 1 rfl) ?_
  have hle := xW_kle hW
  refine zc_i (va_runSN (As := [.int p1]) (rest := []) ⟨hx, hb, hml, hown, hts⟩ (cX5_isHouse_ok l hlt D S0 g k0 p1 _ h) ⟨va_cnB 1 hts gX0_charge_X5_isHouse_n21 rfl rfl rfl hE.2.1 (hts (.initialized RX5) (by decide +kernel)) (by decide +kernel) ⟨Nat.le_of_ble_eq_true rfl, Nat.le_of_ble_eq_true rfl⟩, hts (.static yX5_isHouse) (by decide +kernel), trivial⟩ (zpreS hE hs (xW_start hW)) rfl rfl hl.1 rfl (lv_room (Nat.le_of_ble_eq_true rfl)) dX0_charge_1 ⟨by show _ ≤ 0; omega, by show _ ≤ 8 * (0); omega⟩) hW (fun r1 k2 H locs h hW => ?_)
  obtain ⟨h, hz_r1⟩ := h
  replace hW := hW.mono (xR_tr hle)
  refine W.widen (k := 0) (n := 8 * (0)) (by omega) (by omega) ?_
  refine lv_if_eq (tgt := 29) hx hb dX0_charge_4 (by decide) (fun c_3 => ?_) (fun c_3 => ?_)
  · replace h := h.1 c_3
    refine W.widen (k := 0) (n := 8 * (0)) (by omega) (by omega) ?_
    exact (z_vret hx hb hr hlocks hW h dX0_charge_29)
  · replace h := h.2 c_3
    refine lv_iload_n hx hb dX0_charge_7 rfl (lv_at hl 2 rfl) ?_
    have hle := xW_kle hW
    refine zc_i (va_runSN (As := [.int p2]) (rest := []) ⟨hx, hb, hml, hown, hts⟩ (cX5_isHouse_ok l hlt D S0 g k2 p2 _ h) ⟨va_cnB 1 hts gX0_charge_X5_isHouse_n21 rfl rfl rfl hE.2.1 (hts (.initialized RX5) (by decide +kernel)) (by decide +kernel) ⟨Nat.le_of_ble_eq_true rfl, Nat.le_of_ble_eq_true rfl⟩, hts (.static yX5_isHouse) (by decide +kernel), trivial⟩ (zpreS hE hs (xW_start hW)) rfl rfl hl.1 rfl (lv_room (Nat.le_of_ble_eq_true rfl)) dX0_charge_8 ⟨by show _ ≤ 0; omega, by show _ ≤ 8 * (0); omega⟩) hW (fun r4 k5 H locs h hW => ?_)
    obtain ⟨h, hz_r4⟩ := h
    replace hW := hW.mono (xR_tr hle)
    refine W.widen (k := 0) (n := 8 * (0)) (by omega) (by omega) ?_
    refine lv_if_eq (tgt := 29) hx hb dX0_charge_11 (by decide) (fun c_6 => ?_) (fun c_6 => ?_)
    · replace h := h.1 c_6
      refine W.widen (k := 0) (n := 8 * (0)) (by omega) (by omega) ?_
      exact (z_vret hx hb hr hlocks hW h dX0_charge_29)
    · replace h := h.2 c_6
      refine lv_aload_n hx hb dX0_charge_14 rfl (lv_at hl 0 rfl) ?_
      refine zw_get (C := RX0) (T := TX0) (N := 3) hx hb hts hin0 hown hE.1 hW xC_A rfl 0 (by decide) (hts (.fieldLink RX0 9 "UnionList$Accounts" "debts" "[I") (by decide +kernel)) (fun _ h9 => h9) rfl dX0_charge_15 ?_
      refine lv_iload_n hx hb dX0_charge_18 rfl (lv_at hl 1 rfl) ?_
      refine lv_bipush (v := 6) hx hb dX0_charge_19 (by decide) ?_
      refine lv_imul hx hb dX0_charge_21 ?_
      refine lv_iload_n hx hb dX0_charge_22 rfl (lv_at hl 2 rfl) ?_
      refine lv_iadd hx hb dX0_charge_23 ?_
      refine lv_dup2_11 hx hb dX0_charge_24 rfl rfl ?_
      obtain ⟨hb_7, h⟩ := h
      refine zw_iald hx hb hE.1 hW xC_a4 hb_7 dX0_charge_25 ?_
      refine lv_iload_n hx hb dX0_charge_26 rfl (lv_at hl 3 rfl) ?_
      refine lv_iadd hx hb dX0_charge_27 ?_
      obtain ⟨hb_8, h⟩ := h
      refine zw_iast hx hb hE.1 hW xC_a4 hb_8 dX0_charge_28 xP_a4 (fun H locs hW => ?_)
      obtain ⟨k9, ek9⟩ : ∃ y, y = kset k5 4 ((p1 * 6) + p2).toNatClampNeg ((k5.1 4 ((p1 * 6) + p2).toNatClampNeg) + p3) := ⟨_, rfl⟩
      rw [← ek9] at hW
      replace h := h k9 ek9
      refine W.widen (k := 0) (n := 8 * (0)) (by omega) (by omega) ?_
      exact (z_vret hx hb hr hlocks hW h dX0_charge_29)

def wX0_chargeLoan (S0 : Nat) (k0 : kS) (p1 : Int32) (p2 : Int32) (Q : kS → Prop) : Prop := (wX5_isHouse S0 k0 p1 (fun r1 k2 => ((r1 = 0 → Q k2) ∧ (¬ r1 = 0 → (vp_in p1 6 ∧ ((2 < (k2.1 5 p1.toNatClampNeg) → (wX0_charge S0 k2 p1 p2 6 (fun k7 => Q k7))) ∧ (¬ 2 < (k2.1 5 p1.toNatClampNeg) → (vp_in p1 6 ∧ ((2 ≤ (k2.1 6 p1.toNatClampNeg) → (wX0_charge S0 k2 p1 p2 6 (fun k11 => Q k11))) ∧ (¬ 2 ≤ (k2.1 6 p1.toNatClampNeg) → (vp_in p1 6 ∧ (vp_in p1 6 ∧ (∀ k14 : kS, k14 = kset k2 6 p1.toNatClampNeg ((k2.1 6 p1.toNatClampNeg) + 1) → Q k14)))))))))))))
theorem hin_X0_chargeLoan_0 : ∀ w ∈ u_ws RX0 TX0 3, w ∈ wsX0_chargeLoan := by decide +kernel
set_option maxHeartbeats 8000000 in
set_option maxRecDepth 100000 in
theorem cX0_chargeLoan_ok (l : Launch) (hlt : l.stackTraces = false) (D : zD) (S0 : Nat) (g : zF) (k0 : kS) (p1 : Int32) (p2 : Int32)  (Q : kS → Prop) (h : wX0_chargeLoan S0 k0 p1 p2 Q) : Met l yX0_chargeLoan wsX0_chargeLoan { frames := 2, cells := 0, slots := 8 * (0), locals := 43 } (zPc D S0 (xR D S0 g k0 k0) [.ref (S0 + 5), .int p1, .int p2]) (va_Qv Q (zB D S0 (fun u => xR D S0 g k0 u)) (zA S0)) (0) (8 * (0)) (zA S0) := by
  refine zMet (cc := cX0_chargeLoan) (maxL := 3) (ret := none) (by decide) rfl (Nat.le_of_ble_eq_true rfl) (fun p e s m args below meth c ls hx hb hr hml hown hts hlocks hnm hs hE hW hl => ?_)
  have hsz := xW_sz hW
  have hs0 : S0 ≤ s.heap.size := hs
  have hin0 := hin_X0_chargeLoan_0
  replace hl : lv_has ls 3 [(0, .ref (S0 + 5)), (1, .int p1), (2, .int p2)] := hl
  unfold wX0_chargeLoan at h
  refine lv_iload_n hx hb dX0_chargeLoan_0 rfl (lv_at hl 1 rfl) ?_
  have hle := xW_kle hW
  refine zc_i (va_runSN (As := [.int p1]) (rest := []) ⟨hx, hb, hml, hown, hts⟩ (cX5_isHouse_ok l hlt D S0 g k0 p1 _ h) ⟨va_cnB 1 hts gX0_chargeLoan_X5_isHouse_n21 rfl rfl rfl hE.2.1 (hts (.initialized RX5) (by decide +kernel)) (by decide +kernel) ⟨Nat.le_of_ble_eq_true rfl, Nat.le_of_ble_eq_true rfl⟩, hts (.static yX5_isHouse) (by decide +kernel), trivial⟩ (zpreS hE hs (xW_start hW)) rfl rfl hl.1 rfl (lv_room (Nat.le_of_ble_eq_true rfl)) dX0_chargeLoan_1 ⟨by show _ ≤ 0; omega, by show _ ≤ 8 * (0); omega⟩) hW (fun r1 k2 H locs h hW => ?_)
  obtain ⟨h, hz_r1⟩ := h
  replace hW := hW.mono (xR_tr hle)
  refine W.widen (k := 0) (n := 8 * (0)) (by omega) (by omega) ?_
  refine lv_if_ne (tgt := 8) hx hb dX0_chargeLoan_4 (by decide) (fun c_3 => ?_) (fun c_3 => ?_)
  · replace h := h.2 c_3
    refine lv_aload_n hx hb dX0_chargeLoan_8 rfl (lv_at hl 0 rfl) ?_
    refine zw_get (C := RX0) (T := TX0) (N := 3) hx hb hts hin0 hown hE.1 hW xC_A rfl 1 (by decide) (hts (.fieldLink RX0 15 "UnionList$Accounts" "homeCopies" "[I") (by decide +kernel)) (fun _ h9 => h9) rfl dX0_chargeLoan_9 ?_
    refine lv_iload_n hx hb dX0_chargeLoan_12 rfl (lv_at hl 1 rfl) ?_
    obtain ⟨hb_4, h⟩ := h
    refine zw_iald hx hb hE.1 hW xC_a5 hb_4 dX0_chargeLoan_13 ?_
    refine lv_iconst (v := 2) hx hb dX0_chargeLoan_14 (by decide) ?_
    refine lv_icmp_gt (tgt := 41) hx hb dX0_chargeLoan_15 (by decide) (fun c_5 => ?_) (fun c_5 => ?_)
    · replace h := h.1 c_5
      refine lv_aload_n hx hb dX0_chargeLoan_41 rfl (lv_at hl 0 rfl) ?_
      refine lv_iload_n hx hb dX0_chargeLoan_42 rfl (lv_at hl 1 rfl) ?_
      refine lv_iload_n hx hb dX0_chargeLoan_43 rfl (lv_at hl 2 rfl) ?_
      refine lv_bipush (v := 6) hx hb dX0_chargeLoan_44 (by decide) ?_
      have hle := xW_kle hW
      refine zc_v (va_runV (As := [.int p1, .int p2, .int 6]) (rest := []) ⟨hx, hb, hml, hown, hts⟩ (cX0_charge_ok l hlt D S0 g k2 p1 p2 6 _ h) (cwV 3 hts gX0_chargeLoan_X0_charge rfl rfl rfl (by decide +kernel) ⟨Nat.le_of_ble_eq_true rfl, Nat.le_of_ble_eq_true rfl⟩) (zpreV (q := (RX0, TX0, 3)) hE hs (xW_start hW) xC_A rfl) rfl rfl hl.1 rfl (lv_room (Nat.le_of_ble_eq_true rfl)) dX0_chargeLoan_46 ⟨by show _ ≤ 0; omega, by show _ ≤ 8 * (0); omega⟩) hW (fun k7 H locs h hW => ?_)
      replace hW := hW.mono (xR_tr hle)
      refine W.widen (k := 0) (n := 8 * (0)) (by omega) (by omega) ?_
      refine W.widen (k := 0) (n := 8 * (0)) (by omega) (by omega) ?_
      exact (z_vret hx hb hr hlocks hW h dX0_chargeLoan_49)
    · replace h := h.2 c_5
      refine lv_aload_n hx hb dX0_chargeLoan_18 rfl (lv_at hl 0 rfl) ?_
      refine zw_get (C := RX0) (T := TX0) (N := 3) hx hb hts hin0 hown hE.1 hW xC_A rfl 2 (by decide) (hts (.fieldLink RX0 18 "UnionList$Accounts" "freeLoans" "[I") (by decide +kernel)) (fun _ h9 => h9) rfl dX0_chargeLoan_19 ?_
      refine lv_iload_n hx hb dX0_chargeLoan_22 rfl (lv_at hl 1 rfl) ?_
      obtain ⟨hb_8, h⟩ := h
      refine zw_iald hx hb hE.1 hW xC_a6 hb_8 dX0_chargeLoan_23 ?_
      refine lv_iconst (v := 2) hx hb dX0_chargeLoan_24 (by decide) ?_
      refine lv_icmp_ge (tgt := 41) hx hb dX0_chargeLoan_25 (by decide) (fun c_9 => ?_) (fun c_9 => ?_)
      · replace h := h.1 c_9
        refine lv_aload_n hx hb dX0_chargeLoan_41 rfl (lv_at hl 0 rfl) ?_
        refine lv_iload_n hx hb dX0_chargeLoan_42 rfl (lv_at hl 1 rfl) ?_
        refine lv_iload_n hx hb dX0_chargeLoan_43 rfl (lv_at hl 2 rfl) ?_
        refine lv_bipush (v := 6) hx hb dX0_chargeLoan_44 (by decide) ?_
        have hle := xW_kle hW
        refine zc_v (va_runV (As := [.int p1, .int p2, .int 6]) (rest := []) ⟨hx, hb, hml, hown, hts⟩ (cX0_charge_ok l hlt D S0 g k2 p1 p2 6 _ h) (cwV 3 hts gX0_chargeLoan_X0_charge rfl rfl rfl (by decide +kernel) ⟨Nat.le_of_ble_eq_true rfl, Nat.le_of_ble_eq_true rfl⟩) (zpreV (q := (RX0, TX0, 3)) hE hs (xW_start hW) xC_A rfl) rfl rfl hl.1 rfl (lv_room (Nat.le_of_ble_eq_true rfl)) dX0_chargeLoan_46 ⟨by show _ ≤ 0; omega, by show _ ≤ 8 * (0); omega⟩) hW (fun k11 H locs h hW => ?_)
        replace hW := hW.mono (xR_tr hle)
        refine W.widen (k := 0) (n := 8 * (0)) (by omega) (by omega) ?_
        refine W.widen (k := 0) (n := 8 * (0)) (by omega) (by omega) ?_
        exact (z_vret hx hb hr hlocks hW h dX0_chargeLoan_49)
      · replace h := h.2 c_9
        refine lv_aload_n hx hb dX0_chargeLoan_28 rfl (lv_at hl 0 rfl) ?_
        refine zw_get (C := RX0) (T := TX0) (N := 3) hx hb hts hin0 hown hE.1 hW xC_A rfl 2 (by decide) (hts (.fieldLink RX0 18 "UnionList$Accounts" "freeLoans" "[I") (by decide +kernel)) (fun _ h9 => h9) rfl dX0_chargeLoan_29 ?_
        refine lv_iload_n hx hb dX0_chargeLoan_32 rfl (lv_at hl 1 rfl) ?_
        refine lv_dup2_11 hx hb dX0_chargeLoan_33 rfl rfl ?_
        obtain ⟨hb_12, h⟩ := h
        refine zw_iald hx hb hE.1 hW xC_a6 hb_12 dX0_chargeLoan_34 ?_
        refine lv_iconst (v := 1) hx hb dX0_chargeLoan_35 (by decide) ?_
        refine lv_iadd hx hb dX0_chargeLoan_36 ?_
        obtain ⟨hb_13, h⟩ := h
        refine zw_iast hx hb hE.1 hW xC_a6 hb_13 dX0_chargeLoan_37 xP_a6 (fun H locs hW => ?_)
        obtain ⟨k14, ek14⟩ : ∃ y, y = kset k2 6 p1.toNatClampNeg ((k2.1 6 p1.toNatClampNeg) + 1) := ⟨_, rfl⟩
        rw [← ek14] at hW
        replace h := h k14 ek14
        refine lv_goto (tgt := 49) hx hb dX0_chargeLoan_38 (by decide) ?_
        refine W.widen (k := 0) (n := 8 * (0)) (by omega) (by omega) ?_
        exact (z_vret hx hb hr hlocks hW h dX0_chargeLoan_49)
  · replace h := h.1 c_3
    refine W.widen (k := 0) (n := 8 * (0)) (by omega) (by omega) ?_
    exact (z_vret hx hb hr hlocks hW h dX0_chargeLoan_7)

def wX0_balance (S0 : Nat) (k0 : kS) (p1 : Int32) (p2 : Int32) (Q : Int32 → kS → Prop) : Prop := (wX5_isHouse S0 k0 p1 (fun r1 k2 => ((r1 = 0 → Q 0 k2) ∧ (¬ r1 = 0 → (wX5_isHouse S0 k2 p2 (fun r4 k5 => ((r4 = 0 → Q 0 k5) ∧ (¬ r4 = 0 → (vp_in ((p1 * 6) + p2) 36 ∧ (vp_in ((p2 * 6) + p1) 36 ∧ Q ((k5.1 4 ((p1 * 6) + p2).toNatClampNeg) - (k5.1 4 ((p2 * 6) + p1).toNatClampNeg)) k5))))))))))
theorem hin_X0_balance_0 : ∀ w ∈ u_ws RX0 TX0 3, w ∈ wsX0_balance := by decide +kernel
set_option maxHeartbeats 8000000 in
set_option maxRecDepth 100000 in
theorem cX0_balance_ok (l : Launch) (hlt : l.stackTraces = false) (D : zD) (S0 : Nat) (g : zF) (k0 : kS) (p1 : Int32) (p2 : Int32)  (Q : Int32 → kS → Prop) (h : wX0_balance S0 k0 p1 p2 Q) : Met l yX0_balance wsX0_balance { frames := 1, cells := 0, slots := 8 * (0), locals := 20 } (zPc D S0 (xR D S0 g k0 k0) [.ref (S0 + 5), .int p1, .int p2]) (va_Qi Q (zB D S0 (fun u => xR D S0 g k0 u)) (zA S0)) (0) (8 * (0)) (zA S0) := by
  refine zMet (cc := cX0_balance) (maxL := 3) (ret := (some .int)) (by decide) rfl (Nat.le_of_ble_eq_true rfl) (fun p e s m args below meth c ls hx hb hr hml hown hts hlocks hnm hs hE hW hl => ?_)
  have hsz := xW_sz hW
  have hs0 : S0 ≤ s.heap.size := hs
  have hin0 := hin_X0_balance_0
  replace hl : lv_has ls 3 [(0, .ref (S0 + 5)), (1, .int p1), (2, .int p2)] := hl
  unfold wX0_balance at h
  refine lv_iload_n hx hb dX0_balance_0 rfl (lv_at hl 1 rfl) ?_
  have hle := xW_kle hW
  refine zc_i (va_runSN (As := [.int p1]) (rest := []) ⟨hx, hb, hml, hown, hts⟩ (cX5_isHouse_ok l hlt D S0 g k0 p1 _ h) ⟨va_cnB 1 hts gX0_balance_X5_isHouse_n21 rfl rfl rfl hE.2.1 (hts (.initialized RX5) (by decide +kernel)) (by decide +kernel) ⟨Nat.le_of_ble_eq_true rfl, Nat.le_of_ble_eq_true rfl⟩, hts (.static yX5_isHouse) (by decide +kernel), trivial⟩ (zpreS hE hs (xW_start hW)) rfl rfl hl.1 rfl (lv_room (Nat.le_of_ble_eq_true rfl)) dX0_balance_1 ⟨by show _ ≤ 0; omega, by show _ ≤ 8 * (0); omega⟩) hW (fun r1 k2 H locs h hW => ?_)
  obtain ⟨h, hz_r1⟩ := h
  replace hW := hW.mono (xR_tr hle)
  refine W.widen (k := 0) (n := 8 * (0)) (by omega) (by omega) ?_
  refine lv_if_eq (tgt := 14) hx hb dX0_balance_4 (by decide) (fun c_3 => ?_) (fun c_3 => ?_)
  · replace h := h.1 c_3
    refine lv_iconst (v := 0) hx hb dX0_balance_14 (by decide) ?_
    refine W.widen (k := 0) (n := 8 * (0)) (by omega) (by omega) ?_
    exact (z_iret hx hb hr hlocks hW h dX0_balance_15)
  · replace h := h.2 c_3
    refine lv_iload_n hx hb dX0_balance_7 rfl (lv_at hl 2 rfl) ?_
    have hle := xW_kle hW
    refine zc_i (va_runSN (As := [.int p2]) (rest := []) ⟨hx, hb, hml, hown, hts⟩ (cX5_isHouse_ok l hlt D S0 g k2 p2 _ h) ⟨va_cnB 1 hts gX0_balance_X5_isHouse_n21 rfl rfl rfl hE.2.1 (hts (.initialized RX5) (by decide +kernel)) (by decide +kernel) ⟨Nat.le_of_ble_eq_true rfl, Nat.le_of_ble_eq_true rfl⟩, hts (.static yX5_isHouse) (by decide +kernel), trivial⟩ (zpreS hE hs (xW_start hW)) rfl rfl hl.1 rfl (lv_room (Nat.le_of_ble_eq_true rfl)) dX0_balance_8 ⟨by show _ ≤ 0; omega, by show _ ≤ 8 * (0); omega⟩) hW (fun r4 k5 H locs h hW => ?_)
    obtain ⟨h, hz_r4⟩ := h
    replace hW := hW.mono (xR_tr hle)
    refine W.widen (k := 0) (n := 8 * (0)) (by omega) (by omega) ?_
    refine lv_if_ne (tgt := 16) hx hb dX0_balance_11 (by decide) (fun c_6 => ?_) (fun c_6 => ?_)
    · replace h := h.2 c_6
      refine lv_aload_n hx hb dX0_balance_16 rfl (lv_at hl 0 rfl) ?_
      refine zw_get (C := RX0) (T := TX0) (N := 3) hx hb hts hin0 hown hE.1 hW xC_A rfl 0 (by decide) (hts (.fieldLink RX0 9 "UnionList$Accounts" "debts" "[I") (by decide +kernel)) (fun _ h9 => h9) rfl dX0_balance_17 ?_
      refine lv_iload_n hx hb dX0_balance_20 rfl (lv_at hl 1 rfl) ?_
      refine lv_bipush (v := 6) hx hb dX0_balance_21 (by decide) ?_
      refine lv_imul hx hb dX0_balance_23 ?_
      refine lv_iload_n hx hb dX0_balance_24 rfl (lv_at hl 2 rfl) ?_
      refine lv_iadd hx hb dX0_balance_25 ?_
      obtain ⟨hb_7, h⟩ := h
      refine zw_iald hx hb hE.1 hW xC_a4 hb_7 dX0_balance_26 ?_
      refine lv_aload_n hx hb dX0_balance_27 rfl (lv_at hl 0 rfl) ?_
      refine zw_get (C := RX0) (T := TX0) (N := 3) hx hb hts hin0 hown hE.1 hW xC_A rfl 0 (by decide) (hts (.fieldLink RX0 9 "UnionList$Accounts" "debts" "[I") (by decide +kernel)) (fun _ h9 => h9) rfl dX0_balance_28 ?_
      refine lv_iload_n hx hb dX0_balance_31 rfl (lv_at hl 2 rfl) ?_
      refine lv_bipush (v := 6) hx hb dX0_balance_32 (by decide) ?_
      refine lv_imul hx hb dX0_balance_34 ?_
      refine lv_iload_n hx hb dX0_balance_35 rfl (lv_at hl 1 rfl) ?_
      refine lv_iadd hx hb dX0_balance_36 ?_
      obtain ⟨hb_8, h⟩ := h
      refine zw_iald hx hb hE.1 hW xC_a4 hb_8 dX0_balance_37 ?_
      refine lv_isub hx hb dX0_balance_38 ?_
      refine W.widen (k := 0) (n := 8 * (0)) (by omega) (by omega) ?_
      exact (z_iret hx hb hr hlocks hW h dX0_balance_39)
    · replace h := h.1 c_6
      refine lv_iconst (v := 0) hx hb dX0_balance_14 (by decide) ?_
      refine W.widen (k := 0) (n := 8 * (0)) (by omega) (by omega) ?_
      exact (z_iret hx hb hr hlocks hW h dX0_balance_15)

def wX0_clearDebts_l46 (S0 : Nat) (Q : Int32 → kS → Prop) (K : Int32 → Int32 → kS → Prop) : Nat → Int32 → Int32 → kS → Prop
  | 0, _, _, _ => False
  | f9 + 1, x6, x7, k8 => ((36 ≤ x6 → Q x7 k8) ∧ (¬ 36 ≤ x6 → (vp_in x6 36 ∧ (∀ k12 : kS, k12 = kset k8 4 x6.toNatClampNeg 0 → (wX0_clearDebts_l46 S0 Q K f9 (x6 + 1) x7 k12)))))
def wX0_clearDebts_l14 (S0 : Nat) (Q : Int32 → kS → Prop) (K : Int32 → Int32 → kS → Prop) : Nat → Int32 → Int32 → Int32 → kS → Prop
  | 0, _, _, _, _ => False
  | f18 + 1, x14, x15, x16, k17 => ((6 ≤ x14 → (K (x15 + 1) x16 k17)) ∧ (¬ 6 ≤ x14 → (wX0_balance S0 k17 x15 x14 (fun r20 k21 => ((r20 = 0 → (wX0_clearDebts_l14 S0 Q K f18 (x14 + 1) x15 x16 k21)) ∧ (¬ r20 = 0 → (wX0_clearDebts_l14 S0 Q K f18 (x14 + 1) x15 (x16 + 1) k21)))))))
def wX0_clearDebts_l4 (S0 : Nat) (Q : Int32 → kS → Prop) : Nat → Int32 → Int32 → kS → Prop
  | 0, _, _, _ => False
  | f4 + 1, x1, x2, k3 => ((6 ≤ x1 → (∃ f13 : Nat, wX0_clearDebts_l46 S0 Q (fun u0 u1 u2 => wX0_clearDebts_l4 S0 Q f4 u0 u1 u2) f13 0 x2 k3)) ∧ (¬ 6 ≤ x1 → (∃ f23 : Nat, wX0_clearDebts_l14 S0 Q (fun u0 u1 u2 => wX0_clearDebts_l4 S0 Q f4 u0 u1 u2) f23 (x1 + 1) x1 x2 k3)))
def wX0_clearDebts (S0 : Nat) (k0 : kS) (Q : Int32 → kS → Prop) : Prop := (∃ f24 : Nat, wX0_clearDebts_l4 S0 Q f24 0 0 k0)
theorem hin_X0_clearDebts_0 : ∀ w ∈ u_ws RX0 TX0 3, w ∈ wsX0_clearDebts := by decide +kernel
set_option maxHeartbeats 8000000 in
set_option maxRecDepth 100000 in
theorem cX0_clearDebts_ok (l : Launch) (hlt : l.stackTraces = false) (D : zD) (S0 : Nat) (g : zF) (k0 : kS)   (Q : Int32 → kS → Prop) (h : wX0_clearDebts S0 k0 Q) : Met l yX0_clearDebts wsX0_clearDebts { frames := 2, cells := 0, slots := 8 * (0), locals := 42 } (zPc D S0 (xR D S0 g k0 k0) [.ref (S0 + 5)]) (va_Qi Q (zB D S0 (fun u => xR D S0 g k0 u)) (zA S0)) (0) (8 * (0)) (zA S0) := by
  refine zMet (cc := cX0_clearDebts) (maxL := 4) (ret := (some .int)) (by decide) rfl (Nat.le_of_ble_eq_true rfl) (fun p e s m args below meth c ls hx hb hr hml hown hts hlocks hnm hs hE hW hl => ?_)
  have hsz := xW_sz hW
  have hs0 : S0 ≤ s.heap.size := hs
  have hin0 := hin_X0_clearDebts_0
  replace hl : lv_has ls 4 [(0, .ref (S0 + 5))] := hl
  unfold wX0_clearDebts at h
  refine lv_iconst (v := 0) hx hb dX0_clearDebts_0 (by decide) ?_
  refine lv_istore_n (lv' := [(1, .int 0), (0, .ref (S0 + 5))]) hx hb dX0_clearDebts_1 rfl hl (by decide) rfl (fun ls hl => ?_)
  refine lv_iconst (v := 0) hx hb dX0_clearDebts_2 (by decide) ?_
  refine lv_istore_n (lv' := [(2, .int 0), (1, .int 0), (0, .ref (S0 + 5))]) hx hb dX0_clearDebts_3 rfl hl (by decide) rfl (fun ls hl => ?_)
  have lp4 : ∀ (f4 : Nat) (x1 : Int32) (x2 : Int32) (k3 : kS) (H : Heap) (locs : List Loc) (ls : Array Slot), wX0_clearDebts_l4 S0 Q f4 x1 x2 k3 → zW D S0 (xR D S0 g k0 k3) s.heap H locs → lv_has ls 4 [(2, .int x1), (1, .int x2), (0, .ref (S0 + 5))] → W p l e { frames := 2, cells := 0, slots := 8 * (0), locals := 42 } s m args below meth c H locs (0) (8 * (0)) (MQ below (va_Qi Q (zB D S0 (fun u => xR D S0 g k0 u)) (zA S0)) args s (0) (8 * (0)) (zA S0)) (F0 m 4 ls []) := by
    intro f4
    induction f4 with
    | zero => intro x1 x2 k3 H locs ls h; exact h.elim
    | succ f4 ih4 =>
      intro x1 x2 k3 H locs ls h  hW hl
      unfold wX0_clearDebts_l4 at h
      refine lv_iload_n hx hb dX0_clearDebts_4 rfl (lv_at hl 0 rfl) ?_
      refine lv_bipush (v := 6) hx hb dX0_clearDebts_5 (by decide) ?_
      refine lv_icmp_ge (tgt := 44) hx hb dX0_clearDebts_7 (by decide) (fun c_5 => ?_) (fun c_5 => ?_)
      · replace h := h.1 c_5
        refine lv_iconst (v := 0) hx hb dX0_clearDebts_44 (by decide) ?_
        refine lv_istore_n (lv' := [(2, .int 0), (1, .int x2), (0, .ref (S0 + 5))]) hx hb dX0_clearDebts_45 rfl hl (by decide) rfl (fun ls hl => ?_)
        have lp46 : ∀ (f9 : Nat) (x6 : Int32) (x7 : Int32) (k8 : kS) (H : Heap) (locs : List Loc) (ls : Array Slot), wX0_clearDebts_l46 S0 Q (fun u0 u1 u2 => wX0_clearDebts_l4 S0 Q f4 u0 u1 u2) f9 x6 x7 k8 → zW D S0 (xR D S0 g k0 k8) s.heap H locs → lv_has ls 4 [(2, .int x6), (1, .int x7), (0, .ref (S0 + 5))] → W p l e { frames := 2, cells := 0, slots := 8 * (0), locals := 42 } s m args below meth c H locs (0) (8 * (0)) (MQ below (va_Qi Q (zB D S0 (fun u => xR D S0 g k0 u)) (zA S0)) args s (0) (8 * (0)) (zA S0)) (F0 m 46 ls []) := by
          intro f9
          induction f9 with
          | zero => intro x6 x7 k8 H locs ls h; exact h.elim
          | succ f9 ih46 =>
            intro x6 x7 k8 H locs ls h  hW hl
            unfold wX0_clearDebts_l46 at h
            refine lv_iload_n hx hb dX0_clearDebts_46 rfl (lv_at hl 0 rfl) ?_
            refine lv_aload_n hx hb dX0_clearDebts_47 rfl (lv_at hl 2 rfl) ?_
            refine zw_get (C := RX0) (T := TX0) (N := 3) hx hb hts hin0 hown hE.1 hW xC_A rfl 0 (by decide) (hts (.fieldLink RX0 9 "UnionList$Accounts" "debts" "[I") (by decide +kernel)) (fun _ h9 => h9) rfl dX0_clearDebts_48 ?_
            refine zw_alen (v := 36) hx hb hE.1 hW 0 rfl xC_a4 rfl dX0_clearDebts_51 ?_
            refine lv_icmp_ge (tgt := 68) hx hb dX0_clearDebts_52 (by decide) (fun c_10 => ?_) (fun c_10 => ?_)
            · replace h := h.1 c_10
              refine lv_iload_n hx hb dX0_clearDebts_68 rfl (lv_at hl 1 rfl) ?_
              refine W.widen (k := 0) (n := 8 * (0)) (by omega) (by omega) ?_
              exact (z_iret hx hb hr hlocks hW h dX0_clearDebts_69)
            · replace h := h.2 c_10
              refine lv_aload_n hx hb dX0_clearDebts_55 rfl (lv_at hl 2 rfl) ?_
              refine zw_get (C := RX0) (T := TX0) (N := 3) hx hb hts hin0 hown hE.1 hW xC_A rfl 0 (by decide) (hts (.fieldLink RX0 9 "UnionList$Accounts" "debts" "[I") (by decide +kernel)) (fun _ h9 => h9) rfl dX0_clearDebts_56 ?_
              refine lv_iload_n hx hb dX0_clearDebts_59 rfl (lv_at hl 0 rfl) ?_
              refine lv_iconst (v := 0) hx hb dX0_clearDebts_60 (by decide) ?_
              obtain ⟨hb_11, h⟩ := h
              refine zw_iast hx hb hE.1 hW xC_a4 hb_11 dX0_clearDebts_61 xP_a4 (fun H locs hW => ?_)
              obtain ⟨k12, ek12⟩ : ∃ y, y = kset k8 4 x6.toNatClampNeg 0 := ⟨_, rfl⟩
              rw [← ek12] at hW
              replace h := h k12 ek12
              refine lv_iinc (v := (x6 + 1)) (lv' := [(2, .int (x6 + 1)), (1, .int x7), (0, .ref (S0 + 5))]) hx hb dX0_clearDebts_62 hl (k := 0) rfl rfl (by decide) rfl (fun ls hl => ?_)
              refine lv_goto (tgt := 46) hx hb dX0_clearDebts_65 (by decide) ?_
              exact ih46 (x6 + 1) x7 k12 _ _ _ h  hW (lv_sub hl [0, 1, 2] rfl)
        obtain ⟨f13, h⟩ := h
        exact lp46 f13 0 x2 k3 _ _ _ h  hW (lv_sub hl [0, 1, 2] rfl)
      · replace h := h.2 c_5
        refine lv_iload_n hx hb dX0_clearDebts_10 rfl (lv_at hl 0 rfl) ?_
        refine lv_iconst (v := 1) hx hb dX0_clearDebts_11 (by decide) ?_
        refine lv_iadd hx hb dX0_clearDebts_12 ?_
        refine lv_istore_n (lv' := [(3, .int (x1 + 1)), (2, .int x1), (1, .int x2), (0, .ref (S0 + 5))]) hx hb dX0_clearDebts_13 rfl hl (by decide) rfl (fun ls hl => ?_)
        have lp14 : ∀ (f18 : Nat) (x14 : Int32) (x15 : Int32) (x16 : Int32) (k17 : kS) (H : Heap) (locs : List Loc) (ls : Array Slot), wX0_clearDebts_l14 S0 Q (fun u0 u1 u2 => wX0_clearDebts_l4 S0 Q f4 u0 u1 u2) f18 x14 x15 x16 k17 → zW D S0 (xR D S0 g k0 k17) s.heap H locs → lv_has ls 4 [(3, .int x14), (2, .int x15), (1, .int x16), (0, .ref (S0 + 5))] → W p l e { frames := 2, cells := 0, slots := 8 * (0), locals := 42 } s m args below meth c H locs (0) (8 * (0)) (MQ below (va_Qi Q (zB D S0 (fun u => xR D S0 g k0 u)) (zA S0)) args s (0) (8 * (0)) (zA S0)) (F0 m 14 ls []) := by
          intro f18
          induction f18 with
          | zero => intro x14 x15 x16 k17 H locs ls h; exact h.elim
          | succ f18 ih14 =>
            intro x14 x15 x16 k17 H locs ls h  hW hl
            unfold wX0_clearDebts_l14 at h
            refine lv_iload_n hx hb dX0_clearDebts_14 rfl (lv_at hl 0 rfl) ?_
            refine lv_bipush (v := 6) hx hb dX0_clearDebts_15 (by decide) ?_
            refine lv_icmp_ge (tgt := 38) hx hb dX0_clearDebts_17 (by decide) (fun c_19 => ?_) (fun c_19 => ?_)
            · replace h := h.1 c_19
              refine lv_iinc (v := (x15 + 1)) (lv' := [(2, .int (x15 + 1)), (3, .int x14), (1, .int x16), (0, .ref (S0 + 5))]) hx hb dX0_clearDebts_38 hl (k := 1) rfl rfl (by decide) rfl (fun ls hl => ?_)
              refine lv_goto (tgt := 4) hx hb dX0_clearDebts_41 (by decide) ?_
              exact ih4 (x15 + 1) x16 k17 _ _ _ h  hW (lv_sub hl [0, 2, 3] rfl)
            · replace h := h.2 c_19
              refine lv_aload_n hx hb dX0_clearDebts_20 rfl (lv_at hl 3 rfl) ?_
              refine lv_iload_n hx hb dX0_clearDebts_21 rfl (lv_at hl 1 rfl) ?_
              refine lv_iload_n hx hb dX0_clearDebts_22 rfl (lv_at hl 0 rfl) ?_
              have hle := xW_kle hW
              refine zc_i (va_runV (As := [.int x15, .int x14]) (rest := []) ⟨hx, hb, hml, hown, hts⟩ (cX0_balance_ok l hlt D S0 g k17 x15 x14 _ h) (cwV 2 hts gX0_clearDebts_X0_balance rfl rfl rfl (by decide +kernel) ⟨Nat.le_of_ble_eq_true rfl, Nat.le_of_ble_eq_true rfl⟩) (zpreV (q := (RX0, TX0, 3)) hE hs (xW_start hW) xC_A rfl) rfl rfl hl.1 rfl (lv_room (Nat.le_of_ble_eq_true rfl)) dX0_clearDebts_23 ⟨by show _ ≤ 0; omega, by show _ ≤ 8 * (0); omega⟩) hW (fun r20 k21 H locs h hW => ?_)
              replace hW := hW.mono (xR_tr hle)
              refine W.widen (k := 0) (n := 8 * (0)) (by omega) (by omega) ?_
              refine lv_if_eq (tgt := 32) hx hb dX0_clearDebts_26 (by decide) (fun c_22 => ?_) (fun c_22 => ?_)
              · replace h := h.1 c_22
                refine lv_iinc (v := (x14 + 1)) (lv' := [(3, .int (x14 + 1)), (2, .int x15), (1, .int x16), (0, .ref (S0 + 5))]) hx hb dX0_clearDebts_32 hl (k := 0) rfl rfl (by decide) rfl (fun ls hl => ?_)
                refine lv_goto (tgt := 14) hx hb dX0_clearDebts_35 (by decide) ?_
                exact ih14 (x14 + 1) x15 x16 k21 _ _ _ h  hW (lv_sub hl [0, 1, 2, 3] rfl)
              · replace h := h.2 c_22
                refine lv_iinc (v := (x16 + 1)) (lv' := [(1, .int (x16 + 1)), (3, .int x14), (2, .int x15), (0, .ref (S0 + 5))]) hx hb dX0_clearDebts_29 hl (k := 2) rfl rfl (by decide) rfl (fun ls hl => ?_)
                refine lv_iinc (v := (x14 + 1)) (lv' := [(3, .int (x14 + 1)), (1, .int (x16 + 1)), (2, .int x15), (0, .ref (S0 + 5))]) hx hb dX0_clearDebts_32 hl (k := 1) rfl rfl (by decide) rfl (fun ls hl => ?_)
                refine lv_goto (tgt := 14) hx hb dX0_clearDebts_35 (by decide) ?_
                exact ih14 (x14 + 1) x15 (x16 + 1) k21 _ _ _ h  hW (lv_sub hl [0, 2, 1, 3] rfl)
        obtain ⟨f23, h⟩ := h
        exact lp14 f23 (x1 + 1) x1 x2 k3 _ _ _ h  hW (lv_sub hl [0, 1, 2, 3] rfl)
  obtain ⟨f24, h⟩ := h
  exact lp4 f24 0 0 k0 _ _ _ h  hW (lv_sub hl [0, 1, 2] rfl)
