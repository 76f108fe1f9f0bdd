def wX6_state (m0 : mS) (p1 : Int32) (Q : Int32 → mS → Prop) : Prop := (wX6_isRequest m0 p1 (fun r1 m2 => ((r1 = 0 → (wX6_holds m2 1 (fun r4 m5 => ((r4 = 0 → (vp_in p1 40 ∧ Q (m5 10 p1.toNatClampNeg) m5)) ∧ (¬ r4 = 0 → Q (-1) m5))))) ∧ (¬ r1 = 0 → (wX6_holds m2 0 (fun r8 m9 => ((r8 = 0 → (vp_in p1 40 ∧ Q (m9 10 p1.toNatClampNeg) m9)) ∧ (¬ r8 = 0 → Q (-1) m9))))))))
theorem hin_X6_state_6 : ∀ w ∈ u_ws RX6 TX6 24, w ∈ wsX6_state := by decide +kernel
set_option maxHeartbeats 8000000 in
set_option maxRecDepth 100000 in
theorem cX6_state_ok (l : Launch) (hlt : l.stackTraces = false) (D : zD) (S0 : Nat) (g : zF) (m0 : mS) (p1 : Int32)  (Q : Int32 → mS → Prop) (h : wX6_state m0 p1 Q) : Met l yX6_state wsX6_state { frames := 2, cells := 0, slots := 8 * (0), locals := 44 } (zPc D S0 (mR D S0 g m0) [.ref (S0 + 9), .int p1]) (va_Qi Q (zB D S0 (fun u => mR D S0 g u)) (zA S0)) (0) (8 * (0)) (zA S0) := by
  refine zMet (cc := cX6_state) (maxL := 2) (ret := (some .int)) (by decide) rfl (Nat.le_of_ble_eq_true rfl) (fun p e s m args below meth c ls hx hb hr hml hown hts hlocks hnm hs hE hW hl => ?_)
  have hin6 := hin_X6_state_6
  replace hl : lv_has ls 2 [(0, .ref (S0 + 9)), (1, .int p1)] := hl
  unfold wX6_state at h
  refine lv_aload_n hx hb dX6_state_0 rfl (lv_at hl 0 rfl) ?_
  refine lv_aload_n hx hb dX6_state_1 rfl (lv_at hl 0 rfl) ?_
  refine lv_iload_n hx hb dX6_state_2 rfl (lv_at hl 1 rfl) ?_
  refine zc_i (va_runV (As := [.int p1]) (rest := [.ref (S0 + 9)]) ⟨hx, hb, hml, hown, hts⟩ (cX6_isRequest_ok l hlt D S0 g m0 p1 _ h) (cwV 1 hts gX6_state_X6_isRequest rfl rfl rfl (by decide +kernel) ⟨Nat.le_of_ble_eq_true rfl, Nat.le_of_ble_eq_true rfl⟩) (zpreV (q := (RX6, TX6, 24)) hE hs hW mC_M rfl) rfl rfl hl.1 rfl (lv_room (Nat.le_of_ble_eq_true rfl)) dX6_state_3 ⟨by show _ ≤ 0; omega, by show _ ≤ 8 * (0); omega⟩) hW (fun r1 m2 H locs h hW => ?_)
  obtain ⟨h, hz_r1⟩ := h
  refine W.widen (k := 0) (n := 8 * (0)) (by omega) (by omega) ?_
  refine lv_if_eq (tgt := 13) hx hb dX6_state_6 (by decide) (fun c_3 => ?_) (fun c_3 => ?_)
  · replace h := h.1 c_3
    refine lv_iconst (v := 1) hx hb dX6_state_13 (by decide) ?_
    refine zc_i (va_runV (As := [.int 1]) (rest := []) ⟨hx, hb, hml, hown, hts⟩ (cX6_holds_ok l hlt D S0 g m2 1 _ h) (cwV 1 hts gX6_state_X6_holds rfl rfl rfl (by decide +kernel) ⟨Nat.le_of_ble_eq_true rfl, Nat.le_of_ble_eq_true rfl⟩) (zpreV (q := (RX6, TX6, 24)) hE hs hW mC_M rfl) rfl rfl hl.1 rfl (lv_room (Nat.le_of_ble_eq_true rfl)) dX6_state_14 ⟨by show _ ≤ 0; omega, by show _ ≤ 8 * (0); omega⟩) hW (fun r4 m5 H locs h hW => ?_)
    obtain ⟨h, hz_r4⟩ := h
    refine W.widen (k := 0) (n := 8 * (0)) (by omega) (by omega) ?_
    refine lv_if_eq (tgt := 24) hx hb dX6_state_17 (by decide) (fun c_6 => ?_) (fun c_6 => ?_)
    · replace h := h.1 c_6
      refine lv_aload_n hx hb dX6_state_24 rfl (lv_at hl 0 rfl) ?_
      refine zw_get (C := RX6) (T := TX6) (N := 24) hx hb hts hin6 hown hE.1 hW mC_M rfl 10 (by decide) (hts (.fieldLink RX6 37 "UnionListModel" "stage" "[I") (by decide +kernel)) (fun _ h9 => h9) rfl dX6_state_25 ?_
      refine lv_iload_n hx hb dX6_state_28 rfl (lv_at hl 1 rfl) ?_
      obtain ⟨hb_7, h⟩ := h
      refine zw_iald hx hb hE.1 hW mC_10 hb_7 dX6_state_29 ?_
      refine W.widen (k := 0) (n := 8 * (0)) (by omega) (by omega) ?_
      exact (z_iret hx hb hr hlocks hW h dX6_state_30)
    · replace h := h.2 c_6
      refine lv_iconst (v := (-1)) hx hb dX6_state_20 (by decide) ?_
      refine lv_goto (tgt := 30) hx hb dX6_state_21 (by decide) ?_
      refine W.widen (k := 0) (n := 8 * (0)) (by omega) (by omega) ?_
      exact (z_iret hx hb hr hlocks hW h dX6_state_30)
  · replace h := h.2 c_3
    refine lv_iconst (v := 0) hx hb dX6_state_9 (by decide) ?_
    refine lv_goto (tgt := 14) hx hb dX6_state_10 (by decide) ?_
    refine zc_i (va_runV (As := [.int 0]) (rest := []) ⟨hx, hb, hml, hown, hts⟩ (cX6_holds_ok l hlt D S0 g m2 0 _ h) (cwV 1 hts gX6_state_X6_holds rfl rfl rfl (by decide +kernel) ⟨Nat.le_of_ble_eq_true rfl, Nat.le_of_ble_eq_true rfl⟩) (zpreV (q := (RX6, TX6, 24)) hE hs hW mC_M rfl) rfl rfl hl.1 rfl (lv_room (Nat.le_of_ble_eq_true rfl)) dX6_state_14 ⟨by show _ ≤ 0; omega, by show _ ≤ 8 * (0); omega⟩) hW (fun r8 m9 H locs h hW => ?_)
    obtain ⟨h, hz_r8⟩ := h
    refine W.widen (k := 0) (n := 8 * (0)) (by omega) (by omega) ?_
    refine lv_if_eq (tgt := 24) hx hb dX6_state_17 (by decide) (fun c_10 => ?_) (fun c_10 => ?_)
    · replace h := h.1 c_10
      refine lv_aload_n hx hb dX6_state_24 rfl (lv_at hl 0 rfl) ?_
      refine zw_get (C := RX6) (T := TX6) (N := 24) hx hb hts hin6 hown hE.1 hW mC_M rfl 10 (by decide) (hts (.fieldLink RX6 37 "UnionListModel" "stage" "[I") (by decide +kernel)) (fun _ h9 => h9) rfl dX6_state_25 ?_
      refine lv_iload_n hx hb dX6_state_28 rfl (lv_at hl 1 rfl) ?_
      obtain ⟨hb_11, h⟩ := h
      refine zw_iald hx hb hE.1 hW mC_10 hb_11 dX6_state_29 ?_
      refine W.widen (k := 0) (n := 8 * (0)) (by omega) (by omega) ?_
      exact (z_iret hx hb hr hlocks hW h dX6_state_30)
    · replace h := h.2 c_10
      refine lv_iconst (v := (-1)) hx hb dX6_state_20 (by decide) ?_
      refine lv_goto (tgt := 30) hx hb dX6_state_21 (by decide) ?_
      refine W.widen (k := 0) (n := 8 * (0)) (by omega) (by omega) ?_
      exact (z_iret hx hb hr hlocks hW h dX6_state_30)

def wX6_copyOf (m0 : mS) (p1 : Int32) (Q : Int32 → mS → Prop) : Prop := (wX6_isRequest m0 p1 (fun r1 m2 => ((r1 = 0 → (wX6_holds m2 1 (fun r4 m5 => ((r4 = 0 → (vp_in p1 40 ∧ Q (m5 11 p1.toNatClampNeg) m5)) ∧ (¬ r4 = 0 → Q (-1) m5))))) ∧ (¬ r1 = 0 → (wX6_holds m2 0 (fun r8 m9 => ((r8 = 0 → (vp_in p1 40 ∧ Q (m9 11 p1.toNatClampNeg) m9)) ∧ (¬ r8 = 0 → Q (-1) m9))))))))
theorem hin_X6_copyOf_6 : ∀ w ∈ u_ws RX6 TX6 24, w ∈ wsX6_copyOf := by decide +kernel
set_option maxHeartbeats 8000000 in
set_option maxRecDepth 100000 in
theorem cX6_copyOf_ok (l : Launch) (hlt : l.stackTraces = false) (D : zD) (S0 : Nat) (g : zF) (m0 : mS) (p1 : Int32)  (Q : Int32 → mS → Prop) (h : wX6_copyOf m0 p1 Q) : Met l yX6_copyOf wsX6_copyOf { frames := 2, cells := 0, slots := 8 * (0), locals := 44 } (zPc D S0 (mR D S0 g m0) [.ref (S0 + 9), .int p1]) (va_Qi Q (zB D S0 (fun u => mR D S0 g u)) (zA S0)) (0) (8 * (0)) (zA S0) := by
  refine zMet (cc := cX6_copyOf) (maxL := 2) (ret := (some .int)) (by decide) rfl (Nat.le_of_ble_eq_true rfl) (fun p e s m args below meth c ls hx hb hr hml hown hts hlocks hnm hs hE hW hl => ?_)
  have hin6 := hin_X6_copyOf_6
  replace hl : lv_has ls 2 [(0, .ref (S0 + 9)), (1, .int p1)] := hl
  unfold wX6_copyOf at h
  refine lv_aload_n hx hb dX6_copyOf_0 rfl (lv_at hl 0 rfl) ?_
  refine lv_aload_n hx hb dX6_copyOf_1 rfl (lv_at hl 0 rfl) ?_
  refine lv_iload_n hx hb dX6_copyOf_2 rfl (lv_at hl 1 rfl) ?_
  refine zc_i (va_runV (As := [.int p1]) (rest := [.ref (S0 + 9)]) ⟨hx, hb, hml, hown, hts⟩ (cX6_isRequest_ok l hlt D S0 g m0 p1 _ h) (cwV 1 hts gX6_copyOf_X6_isRequest rfl rfl rfl (by decide +kernel) ⟨Nat.le_of_ble_eq_true rfl, Nat.le_of_ble_eq_true rfl⟩) (zpreV (q := (RX6, TX6, 24)) hE hs hW mC_M rfl) rfl rfl hl.1 rfl (lv_room (Nat.le_of_ble_eq_true rfl)) dX6_copyOf_3 ⟨by show _ ≤ 0; omega, by show _ ≤ 8 * (0); omega⟩) hW (fun r1 m2 H locs h hW => ?_)
  obtain ⟨h, hz_r1⟩ := h
  refine W.widen (k := 0) (n := 8 * (0)) (by omega) (by omega) ?_
  refine lv_if_eq (tgt := 13) hx hb dX6_copyOf_6 (by decide) (fun c_3 => ?_) (fun c_3 => ?_)
  · replace h := h.1 c_3
    refine lv_iconst (v := 1) hx hb dX6_copyOf_13 (by decide) ?_
    refine zc_i (va_runV (As := [.int 1]) (rest := []) ⟨hx, hb, hml, hown, hts⟩ (cX6_holds_ok l hlt D S0 g m2 1 _ h) (cwV 1 hts gX6_copyOf_X6_holds rfl rfl rfl (by decide +kernel) ⟨Nat.le_of_ble_eq_true rfl, Nat.le_of_ble_eq_true rfl⟩) (zpreV (q := (RX6, TX6, 24)) hE hs hW mC_M rfl) rfl rfl hl.1 rfl (lv_room (Nat.le_of_ble_eq_true rfl)) dX6_copyOf_14 ⟨by show _ ≤ 0; omega, by show _ ≤ 8 * (0); omega⟩) hW (fun r4 m5 H locs h hW => ?_)
    obtain ⟨h, hz_r4⟩ := h
    refine W.widen (k := 0) (n := 8 * (0)) (by omega) (by omega) ?_
    refine lv_if_eq (tgt := 24) hx hb dX6_copyOf_17 (by decide) (fun c_6 => ?_) (fun c_6 => ?_)
    · replace h := h.1 c_6
      refine lv_aload_n hx hb dX6_copyOf_24 rfl (lv_at hl 0 rfl) ?_
      refine zw_get (C := RX6) (T := TX6) (N := 24) hx hb hts hin6 hown hE.1 hW mC_M rfl 11 (by decide) (hts (.fieldLink RX6 40 "UnionListModel" "loaned" "[I") (by decide +kernel)) (fun _ h9 => h9) rfl dX6_copyOf_25 ?_
      refine lv_iload_n hx hb dX6_copyOf_28 rfl (lv_at hl 1 rfl) ?_
      obtain ⟨hb_7, h⟩ := h
      refine zw_iald hx hb hE.1 hW mC_11 hb_7 dX6_copyOf_29 ?_
      refine W.widen (k := 0) (n := 8 * (0)) (by omega) (by omega) ?_
      exact (z_iret hx hb hr hlocks hW h dX6_copyOf_30)
    · replace h := h.2 c_6
      refine lv_iconst (v := (-1)) hx hb dX6_copyOf_20 (by decide) ?_
      refine lv_goto (tgt := 30) hx hb dX6_copyOf_21 (by decide) ?_
      refine W.widen (k := 0) (n := 8 * (0)) (by omega) (by omega) ?_
      exact (z_iret hx hb hr hlocks hW h dX6_copyOf_30)
  · replace h := h.2 c_3
    refine lv_iconst (v := 0) hx hb dX6_copyOf_9 (by decide) ?_
    refine lv_goto (tgt := 14) hx hb dX6_copyOf_10 (by decide) ?_
    refine zc_i (va_runV (As := [.int 0]) (rest := []) ⟨hx, hb, hml, hown, hts⟩ (cX6_holds_ok l hlt D S0 g m2 0 _ h) (cwV 1 hts gX6_copyOf_X6_holds rfl rfl rfl (by decide +kernel) ⟨Nat.le_of_ble_eq_true rfl, Nat.le_of_ble_eq_true rfl⟩) (zpreV (q := (RX6, TX6, 24)) hE hs hW mC_M rfl) rfl rfl hl.1 rfl (lv_room (Nat.le_of_ble_eq_true rfl)) dX6_copyOf_14 ⟨by show _ ≤ 0; omega, by show _ ≤ 8 * (0); omega⟩) hW (fun r8 m9 H locs h hW => ?_)
    obtain ⟨h, hz_r8⟩ := h
    refine W.widen (k := 0) (n := 8 * (0)) (by omega) (by omega) ?_
    refine lv_if_eq (tgt := 24) hx hb dX6_copyOf_17 (by decide) (fun c_10 => ?_) (fun c_10 => ?_)
    · replace h := h.1 c_10
      refine lv_aload_n hx hb dX6_copyOf_24 rfl (lv_at hl 0 rfl) ?_
      refine zw_get (C := RX6) (T := TX6) (N := 24) hx hb hts hin6 hown hE.1 hW mC_M rfl 11 (by decide) (hts (.fieldLink RX6 40 "UnionListModel" "loaned" "[I") (by decide +kernel)) (fun _ h9 => h9) rfl dX6_copyOf_25 ?_
      refine lv_iload_n hx hb dX6_copyOf_28 rfl (lv_at hl 1 rfl) ?_
      obtain ⟨hb_11, h⟩ := h
      refine zw_iald hx hb hE.1 hW mC_11 hb_11 dX6_copyOf_29 ?_
      refine W.widen (k := 0) (n := 8 * (0)) (by omega) (by omega) ?_
      exact (z_iret hx hb hr hlocks hW h dX6_copyOf_30)
    · replace h := h.2 c_10
      refine lv_iconst (v := (-1)) hx hb dX6_copyOf_20 (by decide) ?_
      refine lv_goto (tgt := 30) hx hb dX6_copyOf_21 (by decide) ?_
      refine W.widen (k := 0) (n := 8 * (0)) (by omega) (by omega) ?_
      exact (z_iret hx hb hr hlocks hW h dX6_copyOf_30)

def wX6_refuses (m0 : mS) (p1 : Int32) (Q : Int32 → mS → Prop) : Prop := (wX6_isRequest m0 p1 (fun r1 m2 => ((r1 = 0 → Q 1 m2) ∧ (¬ r1 = 0 → (vp_in p1 40 ∧ (((m2 10 p1.toNatClampNeg) = 2 → Q 0 m2) ∧ (¬ (m2 10 p1.toNatClampNeg) = 2 → Q 2 m2)))))))
theorem hin_X6_refuses_6 : ∀ w ∈ u_ws RX6 TX6 24, w ∈ wsX6_refuses := by decide +kernel
set_option maxHeartbeats 8000000 in
set_option maxRecDepth 100000 in
theorem cX6_refuses_ok (l : Launch) (hlt : l.stackTraces = false) (D : zD) (S0 : Nat) (g : zF) (m0 : mS) (p1 : Int32)  (Q : Int32 → mS → Prop) (h : wX6_refuses m0 p1 Q) : Met l yX6_refuses wsX6_refuses { frames := 2, cells := 0, slots := 8 * (0), locals := 44 } (zPc D S0 (mR D S0 g m0) [.ref (S0 + 9), .int p1]) (va_Qi Q (zB D S0 (fun u => mR D S0 g u)) (zA S0)) (0) (8 * (0)) (zA S0) := by
  refine zMet (cc := cX6_refuses) (maxL := 2) (ret := (some .int)) (by decide) rfl (Nat.le_of_ble_eq_true rfl) (fun p e s m args below meth c ls hx hb hr hml hown hts hlocks hnm hs hE hW hl => ?_)
  have hin6 := hin_X6_refuses_6
  replace hl : lv_has ls 2 [(0, .ref (S0 + 9)), (1, .int p1)] := hl
  unfold wX6_refuses at h
  refine lv_aload_n hx hb dX6_refuses_0 rfl (lv_at hl 0 rfl) ?_
  refine lv_iload_n hx hb dX6_refuses_1 rfl (lv_at hl 1 rfl) ?_
  refine zc_i (va_runV (As := [.int p1]) (rest := []) ⟨hx, hb, hml, hown, hts⟩ (cX6_isRequest_ok l hlt D S0 g m0 p1 _ h) (cwV 1 hts gX6_refuses_X6_isRequest rfl rfl rfl (by decide +kernel) ⟨Nat.le_of_ble_eq_true rfl, Nat.le_of_ble_eq_true rfl⟩) (zpreV (q := (RX6, TX6, 24)) hE hs hW mC_M rfl) rfl rfl hl.1 rfl (lv_room (Nat.le_of_ble_eq_true rfl)) dX6_refuses_2 ⟨by show _ ≤ 0; omega, by show _ ≤ 8 * (0); omega⟩) hW (fun r1 m2 H locs h hW => ?_)
  obtain ⟨h, hz_r1⟩ := h
  refine W.widen (k := 0) (n := 8 * (0)) (by omega) (by omega) ?_
  refine lv_if_ne (tgt := 12) hx hb dX6_refuses_5 (by decide) (fun c_3 => ?_) (fun c_3 => ?_)
  · replace h := h.2 c_3
    refine lv_aload_n hx hb dX6_refuses_12 rfl (lv_at hl 0 rfl) ?_
    refine zw_get (C := RX6) (T := TX6) (N := 24) hx hb hts hin6 hown hE.1 hW mC_M rfl 10 (by decide) (hts (.fieldLink RX6 37 "UnionListModel" "stage" "[I") (by decide +kernel)) (fun _ h9 => h9) rfl dX6_refuses_13 ?_
    refine lv_iload_n hx hb dX6_refuses_16 rfl (lv_at hl 1 rfl) ?_
    obtain ⟨hb_4, h⟩ := h
    refine zw_iald hx hb hE.1 hW mC_10 hb_4 dX6_refuses_17 ?_
    refine lv_iconst (v := 2) hx hb dX6_refuses_18 (by decide) ?_
    refine lv_icmp_ne (tgt := 26) hx hb dX6_refuses_19 (by decide) (fun c_5 => ?_) (fun c_5 => ?_)
    · replace h := h.2 c_5
      refine lv_iconst (v := 2) hx hb dX6_refuses_26 (by decide) ?_
      refine W.widen (k := 0) (n := 8 * (0)) (by omega) (by omega) ?_
      exact (z_iret hx hb hr hlocks hW h dX6_refuses_27)
    · replace h := h.1 c_5
      refine lv_iconst (v := 0) hx hb dX6_refuses_22 (by decide) ?_
      refine lv_goto (tgt := 27) hx hb dX6_refuses_23 (by decide) ?_
      refine W.widen (k := 0) (n := 8 * (0)) (by omega) (by omega) ?_
      exact (z_iret hx hb hr hlocks hW h dX6_refuses_27)
  · replace h := h.1 c_3
    refine lv_iconst (v := 1) hx hb dX6_refuses_8 (by decide) ?_
    refine lv_goto (tgt := 27) hx hb dX6_refuses_9 (by decide) ?_
    refine W.widen (k := 0) (n := 8 * (0)) (by omega) (by omega) ?_
    exact (z_iret hx hb hr hlocks hW h dX6_refuses_27)

def wX6_due (m0 : mS) (p1 : Int32) (Q : Int32 → mS → Prop) : Prop := (wX6_refuses m0 p1 (fun r1 m2 => (wX6_holds m2 r1 (fun r3 m4 => ((r3 = 0 → (vp_in p1 40 ∧ Q (m4 12 p1.toNatClampNeg) m4)) ∧ (¬ r3 = 0 → Q (-1) m4))))))
theorem hin_X6_due_6 : ∀ w ∈ u_ws RX6 TX6 24, w ∈ wsX6_due := by decide +kernel
set_option maxHeartbeats 8000000 in
set_option maxRecDepth 100000 in
theorem cX6_due_ok (l : Launch) (hlt : l.stackTraces = false) (D : zD) (S0 : Nat) (g : zF) (m0 : mS) (p1 : Int32)  (Q : Int32 → mS → Prop) (h : wX6_due m0 p1 Q) : Met l yX6_due wsX6_due { frames := 3, cells := 0, slots := 8 * (0), locals := 65 } (zPc D S0 (mR D S0 g m0) [.ref (S0 + 9), .int p1]) (va_Qi Q (zB D S0 (fun u => mR D S0 g u)) (zA S0)) (0) (8 * (0)) (zA S0) := by
  refine zMet (cc := cX6_due) (maxL := 2) (ret := (some .int)) (by decide) rfl (Nat.le_of_ble_eq_true rfl) (fun p e s m args below meth c ls hx hb hr hml hown hts hlocks hnm hs hE hW hl => ?_)
  have hin6 := hin_X6_due_6
  replace hl : lv_has ls 2 [(0, .ref (S0 + 9)), (1, .int p1)] := hl
  unfold wX6_due at h
  refine lv_aload_n hx hb dX6_due_0 rfl (lv_at hl 0 rfl) ?_
  refine lv_aload_n hx hb dX6_due_1 rfl (lv_at hl 0 rfl) ?_
  refine lv_iload_n hx hb dX6_due_2 rfl (lv_at hl 1 rfl) ?_
  refine zc_i (va_runV (As := [.int p1]) (rest := [.ref (S0 + 9)]) ⟨hx, hb, hml, hown, hts⟩ (cX6_refuses_ok l hlt D S0 g m0 p1 _ h) (cwV 1 hts gX6_due_X6_refuses rfl rfl rfl (by decide +kernel) ⟨Nat.le_of_ble_eq_true rfl, Nat.le_of_ble_eq_true rfl⟩) (zpreV (q := (RX6, TX6, 24)) hE hs hW mC_M rfl) rfl rfl hl.1 rfl (lv_room (Nat.le_of_ble_eq_true rfl)) dX6_due_3 ⟨by show _ ≤ 0; omega, by show _ ≤ 8 * (0); omega⟩) hW (fun r1 m2 H locs h hW => ?_)
  refine W.widen (k := 0) (n := 8 * (0)) (by omega) (by omega) ?_
  refine zc_i (va_runV (As := [.int r1]) (rest := []) ⟨hx, hb, hml, hown, hts⟩ (cX6_holds_ok l hlt D S0 g m2 r1 _ h) (cwV 1 hts gX6_due_X6_holds rfl rfl rfl (by decide +kernel) ⟨Nat.le_of_ble_eq_true rfl, Nat.le_of_ble_eq_true rfl⟩) (zpreV (q := (RX6, TX6, 24)) hE hs hW mC_M rfl) rfl rfl hl.1 rfl (lv_room (Nat.le_of_ble_eq_true rfl)) dX6_due_6 ⟨by show _ ≤ 0; omega, by show _ ≤ 8 * (0); omega⟩) hW (fun r3 m4 H locs h hW => ?_)
  obtain ⟨h, hz_r3⟩ := h
  refine W.widen (k := 0) (n := 8 * (0)) (by omega) (by omega) ?_
  refine lv_if_eq (tgt := 16) hx hb dX6_due_9 (by decide) (fun c_5 => ?_) (fun c_5 => ?_)
  · replace h := h.1 c_5
    refine lv_aload_n hx hb dX6_due_16 rfl (lv_at hl 0 rfl) ?_
    refine zw_get (C := RX6) (T := TX6) (N := 24) hx hb hts hin6 hown hE.1 hW mC_M rfl 12 (by decide) (hts (.fieldLink RX6 43 "UnionListModel" "until" "[I") (by decide +kernel)) (fun _ h9 => h9) rfl dX6_due_17 ?_
    refine lv_iload_n hx hb dX6_due_20 rfl (lv_at hl 1 rfl) ?_
    obtain ⟨hb_6, h⟩ := h
    refine zw_iald hx hb hE.1 hW mC_12 hb_6 dX6_due_21 ?_
    refine W.widen (k := 0) (n := 8 * (0)) (by omega) (by omega) ?_
    exact (z_iret hx hb hr hlocks hW h dX6_due_22)
  · replace h := h.2 c_5
    refine lv_iconst (v := (-1)) hx hb dX6_due_12 (by decide) ?_
    refine lv_goto (tgt := 22) hx hb dX6_due_13 (by decide) ?_
    refine W.widen (k := 0) (n := 8 * (0)) (by omega) (by omega) ?_
    exact (z_iret hx hb hr hlocks hW h dX6_due_22)

def wX6_length (m0 : mS) (p1 : Int32) (Q : Int32 → mS → Prop) : Prop := (vp_in p1 40 ∧ (vp_in p1 40 ∧ (vp_in (m0 11 p1.toNatClampNeg) 20 ∧ (wX6_way m0 (m0 8 p1.toNatClampNeg) (m0 0 (m0 11 p1.toNatClampNeg).toNatClampNeg) (fun r4 m5 => Q r4 m5)))))
theorem hin_X6_length_6 : ∀ w ∈ u_ws RX6 TX6 24, w ∈ wsX6_length := by decide +kernel
set_option maxHeartbeats 8000000 in
set_option maxRecDepth 100000 in
theorem cX6_length_ok (l : Launch) (hlt : l.stackTraces = false) (D : zD) (S0 : Nat) (g : zF) (m0 : mS) (p1 : Int32)  (Q : Int32 → mS → Prop) (h : wX6_length m0 p1 Q) : Met l yX6_length wsX6_length { frames := 1, cells := 0, slots := 8 * (0), locals := 22 } (zPc D S0 (mR D S0 g m0) [.ref (S0 + 9), .int p1]) (va_Qi Q (zB D S0 (fun u => mR D S0 g u)) (zA S0)) (0) (8 * (0)) (zA S0) := by
  refine zMet (cc := cX6_length) (maxL := 2) (ret := (some .int)) (by decide) rfl (Nat.le_of_ble_eq_true rfl) (fun p e s m args below meth c ls hx hb hr hml hown hts hlocks hnm hs hE hW hl => ?_)
  have hin6 := hin_X6_length_6
  replace hl : lv_has ls 2 [(0, .ref (S0 + 9)), (1, .int p1)] := hl
  unfold wX6_length at h
  refine lv_aload_n hx hb dX6_length_0 rfl (lv_at hl 0 rfl) ?_
  refine lv_aload_n hx hb dX6_length_1 rfl (lv_at hl 0 rfl) ?_
  refine zw_get (C := RX6) (T := TX6) (N := 24) hx hb hts hin6 hown hE.1 hW mC_M rfl 8 (by decide) (hts (.fieldLink RX6 31 "UnionListModel" "whose" "[I") (by decide +kernel)) (fun _ h9 => h9) rfl dX6_length_2 ?_
  refine lv_iload_n hx hb dX6_length_5 rfl (lv_at hl 1 rfl) ?_
  obtain ⟨hb_1, h⟩ := h
  refine zw_iald hx hb hE.1 hW mC_8 hb_1 dX6_length_6 ?_
  refine lv_aload_n hx hb dX6_length_7 rfl (lv_at hl 0 rfl) ?_
  refine zw_get (C := RX6) (T := TX6) (N := 24) hx hb hts hin6 hown hE.1 hW mC_M rfl 0 (by decide) (hts (.fieldLink RX6 7 "UnionListModel" "home" "[I") (by decide +kernel)) (fun _ h9 => h9) rfl dX6_length_8 ?_
  refine lv_aload_n hx hb dX6_length_11 rfl (lv_at hl 0 rfl) ?_
  refine zw_get (C := RX6) (T := TX6) (N := 24) hx hb hts hin6 hown hE.1 hW mC_M rfl 11 (by decide) (hts (.fieldLink RX6 40 "UnionListModel" "loaned" "[I") (by decide +kernel)) (fun _ h9 => h9) rfl dX6_length_12 ?_
  refine lv_iload_n hx hb dX6_length_15 rfl (lv_at hl 1 rfl) ?_
  obtain ⟨hb_2, h⟩ := h
  refine zw_iald hx hb hE.1 hW mC_11 hb_2 dX6_length_16 ?_
  obtain ⟨hb_3, h⟩ := h
  refine zw_iald hx hb hE.1 hW mC_0 hb_3 dX6_length_17 ?_
  refine zc_i (va_runV (As := [.int (m0 8 p1.toNatClampNeg), .int (m0 0 (m0 11 p1.toNatClampNeg).toNatClampNeg)]) (rest := []) ⟨hx, hb, hml, hown, hts⟩ (cX6_way_ok l hlt D S0 g m0 (m0 8 p1.toNatClampNeg) (m0 0 (m0 11 p1.toNatClampNeg).toNatClampNeg) _ h) (cwV 2 hts gX6_length_X6_way rfl rfl rfl (by decide +kernel) ⟨Nat.le_of_ble_eq_true rfl, Nat.le_of_ble_eq_true rfl⟩) (zpreV (q := (RX6, TX6, 24)) hE hs hW mC_M rfl) rfl rfl hl.1 rfl (lv_room (Nat.le_of_ble_eq_true rfl)) dX6_length_18 ⟨by show _ ≤ 0; omega, by show _ ≤ 8 * (0); omega⟩) hW (fun r4 m5 H locs h hW => ?_)
  refine W.widen (k := 0) (n := 8 * (0)) (by omega) (by omega) ?_
  refine W.widen (k := 0) (n := 8 * (0)) (by omega) (by omega) ?_
  exact (z_iret hx hb hr hlocks hW h dX6_length_21)

def wX6_renew (m0 : mS) (p1 : Int32) (Q : Int32 → mS → Prop) : Prop := (wX6_refuses m0 p1 (fun r1 m2 => (wX6_holds m2 r1 (fun r3 m4 => ((r3 = 0 → (wX6_length m4 p1 (fun r6 m7 => (wX6_send m7 3 p1 r6 (fun r8 m9 => Q r8 m9))))) ∧ (¬ r3 = 0 → Q (-1) m4))))))
set_option maxHeartbeats 8000000 in
set_option maxRecDepth 100000 in
theorem cX6_renew_ok (l : Launch) (hlt : l.stackTraces = false) (D : zD) (S0 : Nat) (g : zF) (m0 : mS) (p1 : Int32)  (Q : Int32 → mS → Prop) (h : wX6_renew m0 p1 Q) : Met l yX6_renew wsX6_renew { frames := 3, cells := 0, slots := 8 * (0), locals := 65 } (zPc D S0 (mR D S0 g m0) [.ref (S0 + 9), .int p1]) (va_Qi Q (zB D S0 (fun u => mR D S0 g u)) (zA S0)) (0) (8 * (0)) (zA S0) := by
  refine zMet (cc := cX6_renew) (maxL := 2) (ret := (some .int)) (by decide) rfl (Nat.le_of_ble_eq_true rfl) (fun p e s m args below meth c ls hx hb hr hml hown hts hlocks hnm hs hE hW hl => ?_)
  replace hl : lv_has ls 2 [(0, .ref (S0 + 9)), (1, .int p1)] := hl
  unfold wX6_renew at h
  refine lv_aload_n hx hb dX6_renew_0 rfl (lv_at hl 0 rfl) ?_
  refine lv_aload_n hx hb dX6_renew_1 rfl (lv_at hl 0 rfl) ?_
  refine lv_iload_n hx hb dX6_renew_2 rfl (lv_at hl 1 rfl) ?_
  refine zc_i (va_runV (As := [.int p1]) (rest := [.ref (S0 + 9)]) ⟨hx, hb, hml, hown, hts⟩ (cX6_refuses_ok l hlt D S0 g m0 p1 _ h) (cwV 1 hts gX6_renew_X6_refuses rfl rfl rfl (by decide +kernel) ⟨Nat.le_of_ble_eq_true rfl, Nat.le_of_ble_eq_true rfl⟩) (zpreV (q := (RX6, TX6, 24)) hE hs hW mC_M rfl) rfl rfl hl.1 rfl (lv_room (Nat.le_of_ble_eq_true rfl)) dX6_renew_3 ⟨by show _ ≤ 0; omega, by show _ ≤ 8 * (0); omega⟩) hW (fun r1 m2 H locs h hW => ?_)
  refine W.widen (k := 0) (n := 8 * (0)) (by omega) (by omega) ?_
  refine zc_i (va_runV (As := [.int r1]) (rest := []) ⟨hx, hb, hml, hown, hts⟩ (cX6_holds_ok l hlt D S0 g m2 r1 _ h) (cwV 1 hts gX6_renew_X6_holds rfl rfl rfl (by decide +kernel) ⟨Nat.le_of_ble_eq_true rfl, Nat.le_of_ble_eq_true rfl⟩) (zpreV (q := (RX6, TX6, 24)) hE hs hW mC_M rfl) rfl rfl hl.1 rfl (lv_room (Nat.le_of_ble_eq_true rfl)) dX6_renew_6 ⟨by show _ ≤ 0; omega, by show _ ≤ 8 * (0); omega⟩) hW (fun r3 m4 H locs h hW => ?_)
  obtain ⟨h, hz_r3⟩ := h
  refine W.widen (k := 0) (n := 8 * (0)) (by omega) (by omega) ?_
  refine lv_if_eq (tgt := 16) hx hb dX6_renew_9 (by decide) (fun c_5 => ?_) (fun c_5 => ?_)
  · replace h := h.1 c_5
    refine lv_aload_n hx hb dX6_renew_16 rfl (lv_at hl 0 rfl) ?_
    refine lv_iconst (v := 3) hx hb dX6_renew_17 (by decide) ?_
    refine lv_iload_n hx hb dX6_renew_18 rfl (lv_at hl 1 rfl) ?_
    refine lv_aload_n hx hb dX6_renew_19 rfl (lv_at hl 0 rfl) ?_
    refine lv_iload_n hx hb dX6_renew_20 rfl (lv_at hl 1 rfl) ?_
    refine zc_i (va_runV (As := [.int p1]) (rest := [.int p1, .int 3, .ref (S0 + 9)]) ⟨hx, hb, hml, hown, hts⟩ (cX6_length_ok l hlt D S0 g m4 p1 _ h) (cwV 1 hts gX6_renew_X6_length rfl rfl rfl (by decide +kernel) ⟨Nat.le_of_ble_eq_true rfl, Nat.le_of_ble_eq_true rfl⟩) (zpreV (q := (RX6, TX6, 24)) hE hs hW mC_M rfl) rfl rfl hl.1 rfl (lv_room (Nat.le_of_ble_eq_true rfl)) dX6_renew_21 ⟨by show _ ≤ 0; omega, by show _ ≤ 8 * (0); omega⟩) hW (fun r6 m7 H locs h hW => ?_)
    refine W.widen (k := 0) (n := 8 * (0)) (by omega) (by omega) ?_
    refine zc_i (va_runV (As := [.int 3, .int p1, .int r6]) (rest := []) ⟨hx, hb, hml, hown, hts⟩ (cX6_send_ok l hlt D S0 g m7 3 p1 r6 _ h) (cwV 3 hts gX6_renew_X6_send rfl rfl rfl (by decide +kernel) ⟨Nat.le_of_ble_eq_true rfl, Nat.le_of_ble_eq_true rfl⟩) (zpreV (q := (RX6, TX6, 24)) hE hs hW mC_M rfl) rfl rfl hl.1 rfl (lv_room (Nat.le_of_ble_eq_true rfl)) dX6_renew_24 ⟨by show _ ≤ 0; omega, by show _ ≤ 8 * (0); omega⟩) hW (fun r8 m9 H locs h hW => ?_)
    refine W.widen (k := 0) (n := 8 * (0)) (by omega) (by omega) ?_
    refine W.widen (k := 0) (n := 8 * (0)) (by omega) (by omega) ?_
    exact (z_iret hx hb hr hlocks hW h dX6_renew_27)
  · replace h := h.2 c_5
    refine lv_iconst (v := (-1)) hx hb dX6_renew_12 (by decide) ?_
    refine lv_goto (tgt := 27) hx hb dX6_renew_13 (by decide) ?_
    refine W.widen (k := 0) (n := 8 * (0)) (by omega) (by omega) ?_
    exact (z_iret hx hb hr hlocks hW h dX6_renew_27)

def wX6_recall (m0 : mS) (p1 : Int32) (Q : Int32 → mS → Prop) : Prop := (wX6_refuses m0 p1 (fun r1 m2 => ((r1 ≤ 0 → (vp_in p1 40 ∧ (((m2 14 p1.toNatClampNeg) = 1 → (wX6_holds m2 2 (fun r15 m16 => ((r15 = 0 → (vp_in p1 40 ∧ (∀ m19 : mS, m19 = mset m16 14 p1.toNatClampNeg 1 → (wX6_length m19 p1 (fun r20 m21 => (wX6_send m21 4 p1 r20 (fun r22 m23 => Q r22 m23))))))) ∧ (¬ r15 = 0 → Q (-1) m16))))) ∧ (¬ (m2 14 p1.toNatClampNeg) = 1 → (wX6_holds m2 0 (fun r6 m7 => ((r6 = 0 → (vp_in p1 40 ∧ (∀ m10 : mS, m10 = mset m7 14 p1.toNatClampNeg 1 → (wX6_length m10 p1 (fun r11 m12 => (wX6_send m12 4 p1 r11 (fun r13 m14 => Q r13 m14))))))) ∧ (¬ r6 = 0 → Q (-1) m7)))))))) ∧ (¬ r1 ≤ 0 → (wX6_refuses m2 p1 (fun r24 m25 => (wX6_holds m25 r24 (fun r26 m27 => ((r26 = 0 → (vp_in p1 40 ∧ (∀ m30 : mS, m30 = mset m27 14 p1.toNatClampNeg 1 → (wX6_length m30 p1 (fun r31 m32 => (wX6_send m32 4 p1 r31 (fun r33 m34 => Q r33 m34))))))) ∧ (¬ r26 = 0 → Q (-1) m27))))))))))
theorem hin_X6_recall_6 : ∀ w ∈ u_ws RX6 TX6 24, w ∈ wsX6_recall := by decide +kernel
set_option maxHeartbeats 8000000 in
set_option maxRecDepth 100000 in
theorem cX6_recall_ok (l : Launch) (hlt : l.stackTraces = false) (D : zD) (S0 : Nat) (g : zF) (m0 : mS) (p1 : Int32)  (Q : Int32 → mS → Prop) (h : wX6_recall m0 p1 Q) : Met l yX6_recall wsX6_recall { frames := 3, cells := 0, slots := 8 * (0), locals := 65 } (zPc D S0 (mR D S0 g m0) [.ref (S0 + 9), .int p1]) (va_Qi Q (zB D S0 (fun u => mR D S0 g u)) (zA S0)) (0) (8 * (0)) (zA S0) := by
  refine zMet (cc := cX6_recall) (maxL := 2) (ret := (some .int)) (by decide) rfl (Nat.le_of_ble_eq_true rfl) (fun p e s m args below meth c ls hx hb hr hml hown hts hlocks hnm hs hE hW hl => ?_)
  have hin6 := hin_X6_recall_6
  replace hl : lv_has ls 2 [(0, .ref (S0 + 9)), (1, .int p1)] := hl
  unfold wX6_recall at h
  refine lv_aload_n hx hb dX6_recall_0 rfl (lv_at hl 0 rfl) ?_
  refine lv_aload_n hx hb dX6_recall_1 rfl (lv_at hl 0 rfl) ?_
  refine lv_iload_n hx hb dX6_recall_2 rfl (lv_at hl 1 rfl) ?_
  refine zc_i (va_runV (As := [.int p1]) (rest := [.ref (S0 + 9)]) ⟨hx, hb, hml, hown, hts⟩ (cX6_refuses_ok l hlt D S0 g m0 p1 _ h) (cwV 1 hts gX6_recall_X6_refuses rfl rfl rfl (by decide +kernel) ⟨Nat.le_of_ble_eq_true rfl, Nat.le_of_ble_eq_true rfl⟩) (zpreV (q := (RX6, TX6, 24)) hE hs hW mC_M rfl) rfl rfl hl.1 rfl (lv_room (Nat.le_of_ble_eq_true rfl)) dX6_recall_3 ⟨by show _ ≤ 0; omega, by show _ ≤ 8 * (0); omega⟩) hW (fun r1 m2 H locs h hW => ?_)
  refine W.widen (k := 0) (n := 8 * (0)) (by omega) (by omega) ?_
  refine lv_if_le (tgt := 17) hx hb dX6_recall_6 (by decide) (fun c_3 => ?_) (fun c_3 => ?_)
  · replace h := h.1 c_3
    refine lv_aload_n hx hb dX6_recall_17 rfl (lv_at hl 0 rfl) ?_
    refine zw_get (C := RX6) (T := TX6) (N := 24) hx hb hts hin6 hown hE.1 hW mC_M rfl 14 (by decide) (hts (.fieldLink RX6 49 "UnionListModel" "called" "[I") (by decide +kernel)) (fun _ h9 => h9) rfl dX6_recall_18 ?_
    refine lv_iload_n hx hb dX6_recall_21 rfl (lv_at hl 1 rfl) ?_
    obtain ⟨hb_4, h⟩ := h
    refine zw_iald hx hb hE.1 hW mC_14 hb_4 dX6_recall_22 ?_
    refine lv_iconst (v := 1) hx hb dX6_recall_23 (by decide) ?_
    refine lv_icmp_ne (tgt := 31) hx hb dX6_recall_24 (by decide) (fun c_5 => ?_) (fun c_5 => ?_)
    · replace h := h.2 c_5
      refine lv_iconst (v := 0) hx hb dX6_recall_31 (by decide) ?_
      refine zc_i (va_runV (As := [.int 0]) (rest := []) ⟨hx, hb, hml, hown, hts⟩ (cX6_holds_ok l hlt D S0 g m2 0 _ h) (cwV 1 hts gX6_recall_X6_holds rfl rfl rfl (by decide +kernel) ⟨Nat.le_of_ble_eq_true rfl, Nat.le_of_ble_eq_true rfl⟩) (zpreV (q := (RX6, TX6, 24)) hE hs hW mC_M rfl) rfl rfl hl.1 rfl (lv_room (Nat.le_of_ble_eq_true rfl)) dX6_recall_32 ⟨by show _ ≤ 0; omega, by show _ ≤ 8 * (0); omega⟩) hW (fun r6 m7 H locs h hW => ?_)
      obtain ⟨h, hz_r6⟩ := h
      refine W.widen (k := 0) (n := 8 * (0)) (by omega) (by omega) ?_
      refine lv_if_eq (tgt := 40) hx hb dX6_recall_35 (by decide) (fun c_8 => ?_) (fun c_8 => ?_)
      · replace h := h.1 c_8
        refine lv_aload_n hx hb dX6_recall_40 rfl (lv_at hl 0 rfl) ?_
        refine zw_get (C := RX6) (T := TX6) (N := 24) hx hb hts hin6 hown hE.1 hW mC_M rfl 14 (by decide) (hts (.fieldLink RX6 49 "UnionListModel" "called" "[I") (by decide +kernel)) (fun _ h9 => h9) rfl dX6_recall_41 ?_
        refine lv_iload_n hx hb dX6_recall_44 rfl (lv_at hl 1 rfl) ?_
        refine lv_iconst (v := 1) hx hb dX6_recall_45 (by decide) ?_
        obtain ⟨hb_9, h⟩ := h
        refine zw_iast hx hb hE.1 hW mC_14 hb_9 dX6_recall_46 mP_14 (fun H locs hW => ?_)
        obtain ⟨m10, em10⟩ : ∃ y, y = mset m7 14 p1.toNatClampNeg 1 := ⟨_, rfl⟩
        rw [← em10] at hW
        replace h := h m10 em10
        refine lv_aload_n hx hb dX6_recall_47 rfl (lv_at hl 0 rfl) ?_
        refine lv_iconst (v := 4) hx hb dX6_recall_48 (by decide) ?_
        refine lv_iload_n hx hb dX6_recall_49 rfl (lv_at hl 1 rfl) ?_
        refine lv_aload_n hx hb dX6_recall_50 rfl (lv_at hl 0 rfl) ?_
        refine lv_iload_n hx hb dX6_recall_51 rfl (lv_at hl 1 rfl) ?_
        refine zc_i (va_runV (As := [.int p1]) (rest := [.int p1, .int 4, .ref (S0 + 9)]) ⟨hx, hb, hml, hown, hts⟩ (cX6_length_ok l hlt D S0 g m10 p1 _ h) (cwV 1 hts gX6_recall_X6_length rfl rfl rfl (by decide +kernel) ⟨Nat.le_of_ble_eq_true rfl, Nat.le_of_ble_eq_true rfl⟩) (zpreV (q := (RX6, TX6, 24)) hE hs hW mC_M rfl) rfl rfl hl.1 rfl (lv_room (Nat.le_of_ble_eq_true rfl)) dX6_recall_52 ⟨by show _ ≤ 0; omega, by show _ ≤ 8 * (0); omega⟩) hW (fun r11 m12 H locs h hW => ?_)
        refine W.widen (k := 0) (n := 8 * (0)) (by omega) (by omega) ?_
        refine zc_i (va_runV (As := [.int 4, .int p1, .int r11]) (rest := []) ⟨hx, hb, hml, hown, hts⟩ (cX6_send_ok l hlt D S0 g m12 4 p1 r11 _ h) (cwV 3 hts gX6_recall_X6_send rfl rfl rfl (by decide +kernel) ⟨Nat.le_of_ble_eq_true rfl, Nat.le_of_ble_eq_true rfl⟩) (zpreV (q := (RX6, TX6, 24)) hE hs hW mC_M rfl) rfl rfl hl.1 rfl (lv_room (Nat.le_of_ble_eq_true rfl)) dX6_recall_55 ⟨by show _ ≤ 0; omega, by show _ ≤ 8 * (0); omega⟩) hW (fun r13 m14 H locs h hW => ?_)
        refine W.widen (k := 0) (n := 8 * (0)) (by omega) (by omega) ?_
        refine W.widen (k := 0) (n := 8 * (0)) (by omega) (by omega) ?_
        exact (z_iret hx hb hr hlocks hW h dX6_recall_58)
      · replace h := h.2 c_8
        refine lv_iconst (v := (-1)) hx hb dX6_recall_38 (by decide) ?_
        refine W.widen (k := 0) (n := 8 * (0)) (by omega) (by omega) ?_
        exact (z_iret hx hb hr hlocks hW h dX6_recall_39)
    · replace h := h.1 c_5
      refine lv_iconst (v := 2) hx hb dX6_recall_27 (by decide) ?_
      refine lv_goto (tgt := 32) hx hb dX6_recall_28 (by decide) ?_
      refine zc_i (va_runV (As := [.int 2]) (rest := []) ⟨hx, hb, hml, hown, hts⟩ (cX6_holds_ok l hlt D S0 g m2 2 _ h) (cwV 1 hts gX6_recall_X6_holds rfl rfl rfl (by decide +kernel) ⟨Nat.le_of_ble_eq_true rfl, Nat.le_of_ble_eq_true rfl⟩) (zpreV (q := (RX6, TX6, 24)) hE hs hW mC_M rfl) rfl rfl hl.1 rfl (lv_room (Nat.le_of_ble_eq_true rfl)) dX6_recall_32 ⟨by show _ ≤ 0; omega, by show _ ≤ 8 * (0); omega⟩) hW (fun r15 m16 H locs h hW => ?_)
      obtain ⟨h, hz_r15⟩ := h
      refine W.widen (k := 0) (n := 8 * (0)) (by omega) (by omega) ?_
      refine lv_if_eq (tgt := 40) hx hb dX6_recall_35 (by decide) (fun c_17 => ?_) (fun c_17 => ?_)
      · replace h := h.1 c_17
        refine lv_aload_n hx hb dX6_recall_40 rfl (lv_at hl 0 rfl) ?_
        refine zw_get (C := RX6) (T := TX6) (N := 24) hx hb hts hin6 hown hE.1 hW mC_M rfl 14 (by decide) (hts (.fieldLink RX6 49 "UnionListModel" "called" "[I") (by decide +kernel)) (fun _ h9 => h9) rfl dX6_recall_41 ?_
        refine lv_iload_n hx hb dX6_recall_44 rfl (lv_at hl 1 rfl) ?_
        refine lv_iconst (v := 1) hx hb dX6_recall_45 (by decide) ?_
        obtain ⟨hb_18, h⟩ := h
        refine zw_iast hx hb hE.1 hW mC_14 hb_18 dX6_recall_46 mP_14 (fun H locs hW => ?_)
        obtain ⟨m19, em19⟩ : ∃ y, y = mset m16 14 p1.toNatClampNeg 1 := ⟨_, rfl⟩
        rw [← em19] at hW
        replace h := h m19 em19
        refine lv_aload_n hx hb dX6_recall_47 rfl (lv_at hl 0 rfl) ?_
        refine lv_iconst (v := 4) hx hb dX6_recall_48 (by decide) ?_
        refine lv_iload_n hx hb dX6_recall_49 rfl (lv_at hl 1 rfl) ?_
        refine lv_aload_n hx hb dX6_recall_50 rfl (lv_at hl 0 rfl) ?_
        refine lv_iload_n hx hb dX6_recall_51 rfl (lv_at hl 1 rfl) ?_
        refine zc_i (va_runV (As := [.int p1]) (rest := [.int p1, .int 4, .ref (S0 + 9)]) ⟨hx, hb, hml, hown, hts⟩ (cX6_length_ok l hlt D S0 g m19 p1 _ h) (cwV 1 hts gX6_recall_X6_length rfl rfl rfl (by decide +kernel) ⟨Nat.le_of_ble_eq_true rfl, Nat.le_of_ble_eq_true rfl⟩) (zpreV (q := (RX6, TX6, 24)) hE hs hW mC_M rfl) rfl rfl hl.1 rfl (lv_room (Nat.le_of_ble_eq_true rfl)) dX6_recall_52 ⟨by show _ ≤ 0; omega, by show _ ≤ 8 * (0); omega⟩) hW (fun r20 m21 H locs h hW => ?_)
        refine W.widen (k := 0) (n := 8 * (0)) (by omega) (by omega) ?_
        refine zc_i (va_runV (As := [.int 4, .int p1, .int r20]) (rest := []) ⟨hx, hb, hml, hown, hts⟩ (cX6_send_ok l hlt D S0 g m21 4 p1 r20 _ h) (cwV 3 hts gX6_recall_X6_send rfl rfl rfl (by decide +kernel) ⟨Nat.le_of_ble_eq_true rfl, Nat.le_of_ble_eq_true rfl⟩) (zpreV (q := (RX6, TX6, 24)) hE hs hW mC_M rfl) rfl rfl hl.1 rfl (lv_room (Nat.le_of_ble_eq_true rfl)) dX6_recall_55 ⟨by show _ ≤ 0; omega, by show _ ≤ 8 * (0); omega⟩) hW (fun r22 m23 H locs h hW => ?_)
        refine W.widen (k := 0) (n := 8 * (0)) (by omega) (by omega) ?_
        refine W.widen (k := 0) (n := 8 * (0)) (by omega) (by omega) ?_
        exact (z_iret hx hb hr hlocks hW h dX6_recall_58)
      · replace h := h.2 c_17
        refine lv_iconst (v := (-1)) hx hb dX6_recall_38 (by decide) ?_
        refine W.widen (k := 0) (n := 8 * (0)) (by omega) (by omega) ?_
        exact (z_iret hx hb hr hlocks hW h dX6_recall_39)
  · replace h := h.2 c_3
    refine lv_aload_n hx hb dX6_recall_9 rfl (lv_at hl 0 rfl) ?_
    refine lv_iload_n hx hb dX6_recall_10 rfl (lv_at hl 1 rfl) ?_
    refine zc_i (va_runV (As := [.int p1]) (rest := [.ref (S0 + 9)]) ⟨hx, hb, hml, hown, hts⟩ (cX6_refuses_ok l hlt D S0 g m2 p1 _ h) (cwV 1 hts gX6_recall_X6_refuses rfl rfl rfl (by decide +kernel) ⟨Nat.le_of_ble_eq_true rfl, Nat.le_of_ble_eq_true rfl⟩) (zpreV (q := (RX6, TX6, 24)) hE hs hW mC_M rfl) rfl rfl hl.1 rfl (lv_room (Nat.le_of_ble_eq_true rfl)) dX6_recall_11 ⟨by show _ ≤ 0; omega, by show _ ≤ 8 * (0); omega⟩) hW (fun r24 m25 H locs h hW => ?_)
    refine W.widen (k := 0) (n := 8 * (0)) (by omega) (by omega) ?_
    refine lv_goto (tgt := 32) hx hb dX6_recall_14 (by decide) ?_
    refine zc_i (va_runV (As := [.int r24]) (rest := []) ⟨hx, hb, hml, hown, hts⟩ (cX6_holds_ok l hlt D S0 g m25 r24 _ h) (cwV 1 hts gX6_recall_X6_holds rfl rfl rfl (by decide +kernel) ⟨Nat.le_of_ble_eq_true rfl, Nat.le_of_ble_eq_true rfl⟩) (zpreV (q := (RX6, TX6, 24)) hE hs hW mC_M rfl) rfl rfl hl.1 rfl (lv_room (Nat.le_of_ble_eq_true rfl)) dX6_recall_32 ⟨by show _ ≤ 0; omega, by show _ ≤ 8 * (0); omega⟩) hW (fun r26 m27 H locs h hW => ?_)
    obtain ⟨h, hz_r26⟩ := h
    refine W.widen (k := 0) (n := 8 * (0)) (by omega) (by omega) ?_
    refine lv_if_eq (tgt := 40) hx hb dX6_recall_35 (by decide) (fun c_28 => ?_) (fun c_28 => ?_)
    · replace h := h.1 c_28
      refine lv_aload_n hx hb dX6_recall_40 rfl (lv_at hl 0 rfl) ?_
      refine zw_get (C := RX6) (T := TX6) (N := 24) hx hb hts hin6 hown hE.1 hW mC_M rfl 14 (by decide) (hts (.fieldLink RX6 49 "UnionListModel" "called" "[I") (by decide +kernel)) (fun _ h9 => h9) rfl dX6_recall_41 ?_
      refine lv_iload_n hx hb dX6_recall_44 rfl (lv_at hl 1 rfl) ?_
      refine lv_iconst (v := 1) hx hb dX6_recall_45 (by decide) ?_
      obtain ⟨hb_29, h⟩ := h
      refine zw_iast hx hb hE.1 hW mC_14 hb_29 dX6_recall_46 mP_14 (fun H locs hW => ?_)
      obtain ⟨m30, em30⟩ : ∃ y, y = mset m27 14 p1.toNatClampNeg 1 := ⟨_, rfl⟩
      rw [← em30] at hW
      replace h := h m30 em30
      refine lv_aload_n hx hb dX6_recall_47 rfl (lv_at hl 0 rfl) ?_
      refine lv_iconst (v := 4) hx hb dX6_recall_48 (by decide) ?_
      refine lv_iload_n hx hb dX6_recall_49 rfl (lv_at hl 1 rfl) ?_
      refine lv_aload_n hx hb dX6_recall_50 rfl (lv_at hl 0 rfl) ?_
      refine lv_iload_n hx hb dX6_recall_51 rfl (lv_at hl 1 rfl) ?_
      refine zc_i (va_runV (As := [.int p1]) (rest := [.int p1, .int 4, .ref (S0 + 9)]) ⟨hx, hb, hml, hown, hts⟩ (cX6_length_ok l hlt D S0 g m30 p1 _ h) (cwV 1 hts gX6_recall_X6_length rfl rfl rfl (by decide +kernel) ⟨Nat.le_of_ble_eq_true rfl, Nat.le_of_ble_eq_true rfl⟩) (zpreV (q := (RX6, TX6, 24)) hE hs hW mC_M rfl) rfl rfl hl.1 rfl (lv_room (Nat.le_of_ble_eq_true rfl)) dX6_recall_52 ⟨by show _ ≤ 0; omega, by show _ ≤ 8 * (0); omega⟩) hW (fun r31 m32 H locs h hW => ?_)
      refine W.widen (k := 0) (n := 8 * (0)) (by omega) (by omega) ?_
      refine zc_i (va_runV (As := [.int 4, .int p1, .int r31]) (rest := []) ⟨hx, hb, hml, hown, hts⟩ (cX6_send_ok l hlt D S0 g m32 4 p1 r31 _ h) (cwV 3 hts gX6_recall_X6_send rfl rfl rfl (by decide +kernel) ⟨Nat.le_of_ble_eq_true rfl, Nat.le_of_ble_eq_true rfl⟩) (zpreV (q := (RX6, TX6, 24)) hE hs hW mC_M rfl) rfl rfl hl.1 rfl (lv_room (Nat.le_of_ble_eq_true rfl)) dX6_recall_55 ⟨by show _ ≤ 0; omega, by show _ ≤ 8 * (0); omega⟩) hW (fun r33 m34 H locs h hW => ?_)
      refine W.widen (k := 0) (n := 8 * (0)) (by omega) (by omega) ?_
      refine W.widen (k := 0) (n := 8 * (0)) (by omega) (by omega) ?_
      exact (z_iret hx hb hr hlocks hW h dX6_recall_58)
    · replace h := h.2 c_28
      refine lv_iconst (v := (-1)) hx hb dX6_recall_38 (by decide) ?_
      refine W.widen (k := 0) (n := 8 * (0)) (by omega) (by omega) ?_
      exact (z_iret hx hb hr hlocks hW h dX6_recall_39)

def wX6_sendBack (m0 : mS) (p1 : Int32) (Q : Int32 → mS → Prop) : Prop := (wX6_refuses m0 p1 (fun r1 m2 => (wX6_holds m2 r1 (fun r3 m4 => ((r3 = 0 → (vp_in p1 40 ∧ (((m4 22 0) ≤ (m4 12 p1.toNatClampNeg) → (vp_in p1 40 ∧ (vp_in p1 40 ∧ (vp_in (m4 11 p1.toNatClampNeg) 20 ∧ (wX6_owe m4 (m4 8 p1.toNatClampNeg) (m4 0 (m4 11 p1.toNatClampNeg).toNatClampNeg) 0 (fun m12 => (vp_in p1 40 ∧ (∀ m14 : mS, m14 = mset m12 10 p1.toNatClampNeg 3 → (vp_in (m4 11 p1.toNatClampNeg) 20 ∧ (∀ m16 : mS, m16 = mset m14 2 (m4 11 p1.toNatClampNeg).toNatClampNeg (-1) → (wX6_length m16 p1 (fun r17 m18 => (wX6_send m18 5 p1 r17 (fun r19 m20 => Q 0 m20)))))))))))))) ∧ (¬ (m4 22 0) ≤ (m4 12 p1.toNatClampNeg) → (vp_in p1 40 ∧ (vp_in p1 40 ∧ (vp_in p1 40 ∧ (vp_in (m4 11 p1.toNatClampNeg) 20 ∧ (wX6_owe m4 (m4 8 p1.toNatClampNeg) (m4 0 (m4 11 p1.toNatClampNeg).toNatClampNeg) ((m4 22 0) - (m4 12 p1.toNatClampNeg)) (fun m26 => (vp_in p1 40 ∧ (∀ m28 : mS, m28 = mset m26 10 p1.toNatClampNeg 3 → (vp_in (m4 11 p1.toNatClampNeg) 20 ∧ (∀ m30 : mS, m30 = mset m28 2 (m4 11 p1.toNatClampNeg).toNatClampNeg (-1) → (wX6_length m30 p1 (fun r31 m32 => (wX6_send m32 5 p1 r31 (fun r33 m34 => Q ((m4 22 0) - (m4 12 p1.toNatClampNeg)) m34)))))))))))))))))) ∧ (¬ r3 = 0 → Q (-1) m4))))))
theorem hin_X6_sendBack_6 : ∀ w ∈ u_ws RX6 TX6 24, w ∈ wsX6_sendBack := by decide +kernel
set_option maxHeartbeats 8000000 in
set_option maxRecDepth 100000 in
theorem cX6_sendBack_ok (l : Launch) (hlt : l.stackTraces = false) (D : zD) (S0 : Nat) (g : zF) (m0 : mS) (p1 : Int32)  (Q : Int32 → mS → Prop) (h : wX6_sendBack m0 p1 Q) : Met l yX6_sendBack wsX6_sendBack { frames := 3, cells := 0, slots := 8 * (0), locals := 65 } (zPc D S0 (mR D S0 g m0) [.ref (S0 + 9), .int p1]) (va_Qi Q (zB D S0 (fun u => mR D S0 g u)) (zA S0)) (0) (8 * (0)) (zA S0) := by
  refine zMet (cc := cX6_sendBack) (maxL := 4) (ret := (some .int)) (by decide) rfl (Nat.le_of_ble_eq_true rfl) (fun p e s m args below meth c ls hx hb hr hml hown hts hlocks hnm hs hE hW hl => ?_)
  have hin6 := hin_X6_sendBack_6
  replace hl : lv_has ls 4 [(0, .ref (S0 + 9)), (1, .int p1)] := hl
  unfold wX6_sendBack at h
  refine lv_aload_n hx hb dX6_sendBack_0 rfl (lv_at hl 0 rfl) ?_
  refine lv_aload_n hx hb dX6_sendBack_1 rfl (lv_at hl 0 rfl) ?_
  refine lv_iload_n hx hb dX6_sendBack_2 rfl (lv_at hl 1 rfl) ?_
  refine zc_i (va_runV (As := [.int p1]) (rest := [.ref (S0 + 9)]) ⟨hx, hb, hml, hown, hts⟩ (cX6_refuses_ok l hlt D S0 g m0 p1 _ h) (cwV 1 hts gX6_sendBack_X6_refuses rfl rfl rfl (by decide +kernel) ⟨Nat.le_of_ble_eq_true rfl, Nat.le_of_ble_eq_true rfl⟩) (zpreV (q := (RX6, TX6, 24)) hE hs hW mC_M rfl) rfl rfl hl.1 rfl (lv_room (Nat.le_of_ble_eq_true rfl)) dX6_sendBack_3 ⟨by show _ ≤ 0; omega, by show _ ≤ 8 * (0); omega⟩) hW (fun r1 m2 H locs h hW => ?_)
  refine W.widen (k := 0) (n := 8 * (0)) (by omega) (by omega) ?_
  refine zc_i (va_runV (As := [.int r1]) (rest := []) ⟨hx, hb, hml, hown, hts⟩ (cX6_holds_ok l hlt D S0 g m2 r1 _ h) (cwV 1 hts gX6_sendBack_X6_holds rfl rfl rfl (by decide +kernel) ⟨Nat.le_of_ble_eq_true rfl, Nat.le_of_ble_eq_true rfl⟩) (zpreV (q := (RX6, TX6, 24)) hE hs hW mC_M rfl) rfl rfl hl.1 rfl (lv_room (Nat.le_of_ble_eq_true rfl)) dX6_sendBack_6 ⟨by show _ ≤ 0; omega, by show _ ≤ 8 * (0); omega⟩) hW (fun r3 m4 H locs h hW => ?_)
  obtain ⟨h, hz_r3⟩ := h
  refine W.widen (k := 0) (n := 8 * (0)) (by omega) (by omega) ?_
  refine lv_if_eq (tgt := 14) hx hb dX6_sendBack_9 (by decide) (fun c_5 => ?_) (fun c_5 => ?_)
  · replace h := h.1 c_5
    refine lv_aload_n hx hb dX6_sendBack_14 rfl (lv_at hl 0 rfl) ?_
    refine zw_get (C := RX6) (T := TX6) (N := 24) hx hb hts hin6 hown hE.1 hW mC_M rfl 22 (by decide) (hts (.fieldLink RX6 84 "UnionListModel" "now" "I") (by decide +kernel)) (fun _ h9 => h9) rfl dX6_sendBack_15 ?_
    refine lv_aload_n hx hb dX6_sendBack_18 rfl (lv_at hl 0 rfl) ?_
    refine zw_get (C := RX6) (T := TX6) (N := 24) hx hb hts hin6 hown hE.1 hW mC_M rfl 12 (by decide) (hts (.fieldLink RX6 43 "UnionListModel" "until" "[I") (by decide +kernel)) (fun _ h9 => h9) rfl dX6_sendBack_19 ?_
    refine lv_iload_n hx hb dX6_sendBack_22 rfl (lv_at hl 1 rfl) ?_
    obtain ⟨hb_6, h⟩ := h
    refine zw_iald hx hb hE.1 hW mC_12 hb_6 dX6_sendBack_23 ?_
    refine lv_icmp_le (tgt := 41) hx hb dX6_sendBack_24 (by decide) (fun c_7 => ?_) (fun c_7 => ?_)
    · replace h := h.1 c_7
      refine lv_iconst (v := 0) hx hb dX6_sendBack_41 (by decide) ?_
      refine lv_istore_n (lv' := [(2, .int 0), (0, .ref (S0 + 9)), (1, .int p1)]) hx hb dX6_sendBack_42 rfl hl (by decide) rfl (fun ls hl => ?_)
      refine lv_aload_n hx hb dX6_sendBack_43 rfl (lv_at hl 1 rfl) ?_
      refine zw_get (C := RX6) (T := TX6) (N := 24) hx hb hts hin6 hown hE.1 hW mC_M rfl 11 (by decide) (hts (.fieldLink RX6 40 "UnionListModel" "loaned" "[I") (by decide +kernel)) (fun _ h9 => h9) rfl dX6_sendBack_44 ?_
      refine lv_iload_n hx hb dX6_sendBack_47 rfl (lv_at hl 2 rfl) ?_
      obtain ⟨hb_8, h⟩ := h
      refine zw_iald hx hb hE.1 hW mC_11 hb_8 dX6_sendBack_48 ?_
      refine lv_istore_n (lv' := [(3, .int (m4 11 p1.toNatClampNeg)), (2, .int 0), (0, .ref (S0 + 9)), (1, .int p1)]) hx hb dX6_sendBack_49 rfl hl (by decide) rfl (fun ls hl => ?_)
      refine lv_aload_n hx hb dX6_sendBack_50 rfl (lv_at hl 2 rfl) ?_
      refine lv_aload_n hx hb dX6_sendBack_51 rfl (lv_at hl 2 rfl) ?_
      refine zw_get (C := RX6) (T := TX6) (N := 24) hx hb hts hin6 hown hE.1 hW mC_M rfl 8 (by decide) (hts (.fieldLink RX6 31 "UnionListModel" "whose" "[I") (by decide +kernel)) (fun _ h9 => h9) rfl dX6_sendBack_52 ?_
      refine lv_iload_n hx hb dX6_sendBack_55 rfl (lv_at hl 3 rfl) ?_
      obtain ⟨hb_9, h⟩ := h
      refine zw_iald hx hb hE.1 hW mC_8 hb_9 dX6_sendBack_56 ?_
      refine lv_aload_n hx hb dX6_sendBack_57 rfl (lv_at hl 2 rfl) ?_
      refine zw_get (C := RX6) (T := TX6) (N := 24) hx hb hts hin6 hown hE.1 hW mC_M rfl 0 (by decide) (hts (.fieldLink RX6 7 "UnionListModel" "home" "[I") (by decide +kernel)) (fun _ h9 => h9) rfl dX6_sendBack_58 ?_
      refine lv_iload_n hx hb dX6_sendBack_61 rfl (lv_at hl 0 rfl) ?_
      obtain ⟨hb_10, h⟩ := h
      refine zw_iald hx hb hE.1 hW mC_0 hb_10 dX6_sendBack_62 ?_
      refine lv_iload_n hx hb dX6_sendBack_63 rfl (lv_at hl 1 rfl) ?_
      refine zc_v (va_runV (As := [.int (m4 8 p1.toNatClampNeg), .int (m4 0 (m4 11 p1.toNatClampNeg).toNatClampNeg), .int 0]) (rest := []) ⟨hx, hb, hml, hown, hts⟩ (cX6_owe_ok l hlt D S0 g m4 (m4 8 p1.toNatClampNeg) (m4 0 (m4 11 p1.toNatClampNeg).toNatClampNeg) 0 _ h) (cwV 3 hts gX6_sendBack_X6_owe rfl rfl rfl (by decide +kernel) ⟨Nat.le_of_ble_eq_true rfl, Nat.le_of_ble_eq_true rfl⟩) (zpreV (q := (RX6, TX6, 24)) hE hs hW mC_M rfl) rfl rfl hl.1 rfl (lv_room (Nat.le_of_ble_eq_true rfl)) dX6_sendBack_64 ⟨by show _ ≤ 0; omega, by show _ ≤ 8 * (0); omega⟩) hW (fun m12 H locs h hW => ?_)
      refine W.widen (k := 0) (n := 8 * (0)) (by omega) (by omega) ?_
      refine lv_aload_n hx hb dX6_sendBack_67 rfl (lv_at hl 2 rfl) ?_
      refine zw_get (C := RX6) (T := TX6) (N := 24) hx hb hts hin6 hown hE.1 hW mC_M rfl 10 (by decide) (hts (.fieldLink RX6 37 "UnionListModel" "stage" "[I") (by decide +kernel)) (fun _ h9 => h9) rfl dX6_sendBack_68 ?_
      refine lv_iload_n hx hb dX6_sendBack_71 rfl (lv_at hl 3 rfl) ?_
      refine lv_iconst (v := 3) hx hb dX6_sendBack_72 (by decide) ?_
      obtain ⟨hb_13, h⟩ := h
      refine zw_iast hx hb hE.1 hW mC_10 hb_13 dX6_sendBack_73 mP_10 (fun H locs hW => ?_)
      obtain ⟨m14, em14⟩ : ∃ y, y = mset m12 10 p1.toNatClampNeg 3 := ⟨_, rfl⟩
      rw [← em14] at hW
      replace h := h m14 em14
      refine lv_aload_n hx hb dX6_sendBack_74 rfl (lv_at hl 2 rfl) ?_
      refine zw_get (C := RX6) (T := TX6) (N := 24) hx hb hts hin6 hown hE.1 hW mC_M rfl 2 (by decide) (hts (.fieldLink RX6 16 "UnionListModel" "place" "[I") (by decide +kernel)) (fun _ h9 => h9) rfl dX6_sendBack_75 ?_
      refine lv_iload_n hx hb dX6_sendBack_78 rfl (lv_at hl 0 rfl) ?_
      refine lv_iconst (v := (-1)) hx hb dX6_sendBack_79 (by decide) ?_
      obtain ⟨hb_15, h⟩ := h
      refine zw_iast hx hb hE.1 hW mC_2 hb_15 dX6_sendBack_80 mP_2 (fun H locs hW => ?_)
      obtain ⟨m16, em16⟩ : ∃ y, y = mset m14 2 (m4 11 p1.toNatClampNeg).toNatClampNeg (-1) := ⟨_, rfl⟩
      rw [← em16] at hW
      replace h := h m16 em16
      refine lv_aload_n hx hb dX6_sendBack_81 rfl (lv_at hl 2 rfl) ?_
      refine lv_iconst (v := 5) hx hb dX6_sendBack_82 (by decide) ?_
      refine lv_iload_n hx hb dX6_sendBack_83 rfl (lv_at hl 3 rfl) ?_
      refine lv_aload_n hx hb dX6_sendBack_84 rfl (lv_at hl 2 rfl) ?_
      refine lv_iload_n hx hb dX6_sendBack_85 rfl (lv_at hl 3 rfl) ?_
      refine zc_i (va_runV (As := [.int p1]) (rest := [.int p1, .int 5, .ref (S0 + 9)]) ⟨hx, hb, hml, hown, hts⟩ (cX6_length_ok l hlt D S0 g m16 p1 _ h) (cwV 1 hts gX6_sendBack_X6_length rfl rfl rfl (by decide +kernel) ⟨Nat.le_of_ble_eq_true rfl, Nat.le_of_ble_eq_true rfl⟩) (zpreV (q := (RX6, TX6, 24)) hE hs hW mC_M rfl) rfl rfl hl.1 rfl (lv_room (Nat.le_of_ble_eq_true rfl)) dX6_sendBack_86 ⟨by show _ ≤ 0; omega, by show _ ≤ 8 * (0); omega⟩) hW (fun r17 m18 H locs h hW => ?_)
      refine W.widen (k := 0) (n := 8 * (0)) (by omega) (by omega) ?_
      refine zc_i (va_runV (As := [.int 5, .int p1, .int r17]) (rest := []) ⟨hx, hb, hml, hown, hts⟩ (cX6_send_ok l hlt D S0 g m18 5 p1 r17 _ h) (cwV 3 hts gX6_sendBack_X6_send rfl rfl rfl (by decide +kernel) ⟨Nat.le_of_ble_eq_true rfl, Nat.le_of_ble_eq_true rfl⟩) (zpreV (q := (RX6, TX6, 24)) hE hs hW mC_M rfl) rfl rfl hl.1 rfl (lv_room (Nat.le_of_ble_eq_true rfl)) dX6_sendBack_89 ⟨by show _ ≤ 0; omega, by show _ ≤ 8 * (0); omega⟩) hW (fun r19 m20 H locs h hW => ?_)
      refine W.widen (k := 0) (n := 8 * (0)) (by omega) (by omega) ?_
      refine lv_pop hx hb dX6_sendBack_92 rfl ?_
      refine lv_iload_n hx hb dX6_sendBack_93 rfl (lv_at hl 1 rfl) ?_
      refine W.widen (k := 0) (n := 8 * (0)) (by omega) (by omega) ?_
      exact (z_iret hx hb hr hlocks hW h dX6_sendBack_94)
    · replace h := h.2 c_7
      refine lv_aload_n hx hb dX6_sendBack_27 rfl (lv_at hl 0 rfl) ?_
      refine zw_get (C := RX6) (T := TX6) (N := 24) hx hb hts hin6 hown hE.1 hW mC_M rfl 22 (by decide) (hts (.fieldLink RX6 84 "UnionListModel" "now" "I") (by decide +kernel)) (fun _ h9 => h9) rfl dX6_sendBack_28 ?_
      refine lv_aload_n hx hb dX6_sendBack_31 rfl (lv_at hl 0 rfl) ?_
      refine zw_get (C := RX6) (T := TX6) (N := 24) hx hb hts hin6 hown hE.1 hW mC_M rfl 12 (by decide) (hts (.fieldLink RX6 43 "UnionListModel" "until" "[I") (by decide +kernel)) (fun _ h9 => h9) rfl dX6_sendBack_32 ?_
      refine lv_iload_n hx hb dX6_sendBack_35 rfl (lv_at hl 1 rfl) ?_
      obtain ⟨hb_21, h⟩ := h
      refine zw_iald hx hb hE.1 hW mC_12 hb_21 dX6_sendBack_36 ?_
      refine lv_isub hx hb dX6_sendBack_37 ?_
      refine lv_goto (tgt := 42) hx hb dX6_sendBack_38 (by decide) ?_
      refine lv_istore_n (lv' := [(2, .int ((m4 22 0) - (m4 12 p1.toNatClampNeg))), (0, .ref (S0 + 9)), (1, .int p1)]) hx hb dX6_sendBack_42 rfl hl (by decide) rfl (fun ls hl => ?_)
      refine lv_aload_n hx hb dX6_sendBack_43 rfl (lv_at hl 1 rfl) ?_
      refine zw_get (C := RX6) (T := TX6) (N := 24) hx hb hts hin6 hown hE.1 hW mC_M rfl 11 (by decide) (hts (.fieldLink RX6 40 "UnionListModel" "loaned" "[I") (by decide +kernel)) (fun _ h9 => h9) rfl dX6_sendBack_44 ?_
      refine lv_iload_n hx hb dX6_sendBack_47 rfl (lv_at hl 2 rfl) ?_
      obtain ⟨hb_22, h⟩ := h
      refine zw_iald hx hb hE.1 hW mC_11 hb_22 dX6_sendBack_48 ?_
      refine lv_istore_n (lv' := [(3, .int (m4 11 p1.toNatClampNeg)), (2, .int ((m4 22 0) - (m4 12 p1.toNatClampNeg))), (0, .ref (S0 + 9)), (1, .int p1)]) hx hb dX6_sendBack_49 rfl hl (by decide) rfl (fun ls hl => ?_)
      refine lv_aload_n hx hb dX6_sendBack_50 rfl (lv_at hl 2 rfl) ?_
      refine lv_aload_n hx hb dX6_sendBack_51 rfl (lv_at hl 2 rfl) ?_
      refine zw_get (C := RX6) (T := TX6) (N := 24) hx hb hts hin6 hown hE.1 hW mC_M rfl 8 (by decide) (hts (.fieldLink RX6 31 "UnionListModel" "whose" "[I") (by decide +kernel)) (fun _ h9 => h9) rfl dX6_sendBack_52 ?_
      refine lv_iload_n hx hb dX6_sendBack_55 rfl (lv_at hl 3 rfl) ?_
      obtain ⟨hb_23, h⟩ := h
      refine zw_iald hx hb hE.1 hW mC_8 hb_23 dX6_sendBack_56 ?_
      refine lv_aload_n hx hb dX6_sendBack_57 rfl (lv_at hl 2 rfl) ?_
      refine zw_get (C := RX6) (T := TX6) (N := 24) hx hb hts hin6 hown hE.1 hW mC_M rfl 0 (by decide) (hts (.fieldLink RX6 7 "UnionListModel" "home" "[I") (by decide +kernel)) (fun _ h9 => h9) rfl dX6_sendBack_58 ?_
      refine lv_iload_n hx hb dX6_sendBack_61 rfl (lv_at hl 0 rfl) ?_
      obtain ⟨hb_24, h⟩ := h
      refine zw_iald hx hb hE.1 hW mC_0 hb_24 dX6_sendBack_62 ?_
      refine lv_iload_n hx hb dX6_sendBack_63 rfl (lv_at hl 1 rfl) ?_
      refine zc_v (va_runV (As := [.int (m4 8 p1.toNatClampNeg), .int (m4 0 (m4 11 p1.toNatClampNeg).toNatClampNeg), .int ((m4 22 0) - (m4 12 p1.toNatClampNeg))]) (rest := []) ⟨hx, hb, hml, hown, hts⟩ (cX6_owe_ok l hlt D S0 g m4 (m4 8 p1.toNatClampNeg) (m4 0 (m4 11 p1.toNatClampNeg).toNatClampNeg) ((m4 22 0) - (m4 12 p1.toNatClampNeg)) _ h) (cwV 3 hts gX6_sendBack_X6_owe rfl rfl rfl (by decide +kernel) ⟨Nat.le_of_ble_eq_true rfl, Nat.le_of_ble_eq_true rfl⟩) (zpreV (q := (RX6, TX6, 24)) hE hs hW mC_M rfl) rfl rfl hl.1 rfl (lv_room (Nat.le_of_ble_eq_true rfl)) dX6_sendBack_64 ⟨by show _ ≤ 0; omega, by show _ ≤ 8 * (0); omega⟩) hW (fun m26 H locs h hW => ?_)
      refine W.widen (k := 0) (n := 8 * (0)) (by omega) (by omega) ?_
      refine lv_aload_n hx hb dX6_sendBack_67 rfl (lv_at hl 2 rfl) ?_
      refine zw_get (C := RX6) (T := TX6) (N := 24) hx hb hts hin6 hown hE.1 hW mC_M rfl 10 (by decide) (hts (.fieldLink RX6 37 "UnionListModel" "stage" "[I") (by decide +kernel)) (fun _ h9 => h9) rfl dX6_sendBack_68 ?_
      refine lv_iload_n hx hb dX6_sendBack_71 rfl (lv_at hl 3 rfl) ?_
      refine lv_iconst (v := 3) hx hb dX6_sendBack_72 (by decide) ?_
      obtain ⟨hb_27, h⟩ := h
      refine zw_iast hx hb hE.1 hW mC_10 hb_27 dX6_sendBack_73 mP_10 (fun H locs hW => ?_)
      obtain ⟨m28, em28⟩ : ∃ y, y = mset m26 10 p1.toNatClampNeg 3 := ⟨_, rfl⟩
      rw [← em28] at hW
      replace h := h m28 em28
      refine lv_aload_n hx hb dX6_sendBack_74 rfl (lv_at hl 2 rfl) ?_
      refine zw_get (C := RX6) (T := TX6) (N := 24) hx hb hts hin6 hown hE.1 hW mC_M rfl 2 (by decide) (hts (.fieldLink RX6 16 "UnionListModel" "place" "[I") (by decide +kernel)) (fun _ h9 => h9) rfl dX6_sendBack_75 ?_
      refine lv_iload_n hx hb dX6_sendBack_78 rfl (lv_at hl 0 rfl) ?_
      refine lv_iconst (v := (-1)) hx hb dX6_sendBack_79 (by decide) ?_
      obtain ⟨hb_29, h⟩ := h
      refine zw_iast hx hb hE.1 hW mC_2 hb_29 dX6_sendBack_80 mP_2 (fun H locs hW => ?_)
      obtain ⟨m30, em30⟩ : ∃ y, y = mset m28 2 (m4 11 p1.toNatClampNeg).toNatClampNeg (-1) := ⟨_, rfl⟩
      rw [← em30] at hW
      replace h := h m30 em30
      refine lv_aload_n hx hb dX6_sendBack_81 rfl (lv_at hl 2 rfl) ?_
      refine lv_iconst (v := 5) hx hb dX6_sendBack_82 (by decide) ?_
      refine lv_iload_n hx hb dX6_sendBack_83 rfl (lv_at hl 3 rfl) ?_
      refine lv_aload_n hx hb dX6_sendBack_84 rfl (lv_at hl 2 rfl) ?_
      refine lv_iload_n hx hb dX6_sendBack_85 rfl (lv_at hl 3 rfl) ?_
      refine zc_i (va_runV (As := [.int p1]) (rest := [.int p1, .int 5, .ref (S0 + 9)]) ⟨hx, hb, hml, hown, hts⟩ (cX6_length_ok l hlt D S0 g m30 p1 _ h) (cwV 1 hts gX6_sendBack_X6_length rfl rfl rfl (by decide +kernel) ⟨Nat.le_of_ble_eq_true rfl, Nat.le_of_ble_eq_true rfl⟩) (zpreV (q := (RX6, TX6, 24)) hE hs hW mC_M rfl) rfl rfl hl.1 rfl (lv_room (Nat.le_of_ble_eq_true rfl)) dX6_sendBack_86 ⟨by show _ ≤ 0; omega, by show _ ≤ 8 * (0); omega⟩) hW (fun r31 m32 H locs h hW => ?_)
      refine W.widen (k := 0) (n := 8 * (0)) (by omega) (by omega) ?_
      refine zc_i (va_runV (As := [.int 5, .int p1, .int r31]) (rest := []) ⟨hx, hb, hml, hown, hts⟩ (cX6_send_ok l hlt D S0 g m32 5 p1 r31 _ h) (cwV 3 hts gX6_sendBack_X6_send rfl rfl rfl (by decide +kernel) ⟨Nat.le_of_ble_eq_true rfl, Nat.le_of_ble_eq_true rfl⟩) (zpreV (q := (RX6, TX6, 24)) hE hs hW mC_M rfl) rfl rfl hl.1 rfl (lv_room (Nat.le_of_ble_eq_true rfl)) dX6_sendBack_89 ⟨by show _ ≤ 0; omega, by show _ ≤ 8 * (0); omega⟩) hW (fun r33 m34 H locs h hW => ?_)
      refine W.widen (k := 0) (n := 8 * (0)) (by omega) (by omega) ?_
      refine lv_pop hx hb dX6_sendBack_92 rfl ?_
      refine lv_iload_n hx hb dX6_sendBack_93 rfl (lv_at hl 1 rfl) ?_
      refine W.widen (k := 0) (n := 8 * (0)) (by omega) (by omega) ?_
      exact (z_iret hx hb hr hlocks hW h dX6_sendBack_94)
  · replace h := h.2 c_5
    refine lv_iconst (v := (-1)) hx hb dX6_sendBack_12 (by decide) ?_
    refine W.widen (k := 0) (n := 8 * (0)) (by omega) (by omega) ?_
    exact (z_iret hx hb hr hlocks hW h dX6_sendBack_13)
