def wX6_homes_l4 (p1 : Int32) (Q : Int32 → mS → Prop) : Nat → Int32 → Int32 → mS → Prop
  | 0, _, _, _ => False
  | f4 + 1, x1, x2, m3 => (((m3 7 0) ≤ x1 → Q x2 m3) ∧ (¬ (m3 7 0) ≤ x1 → (vp_in x1 20 ∧ (((m3 0 x1.toNatClampNeg) = p1 → (wX6_homes_l4 p1 Q f4 (x1 + 1) (x2 + 1) m3)) ∧ (¬ (m3 0 x1.toNatClampNeg) = p1 → (wX6_homes_l4 p1 Q f4 (x1 + 1) (x2 + 0) m3))))))
def wX6_homes (m0 : mS) (p1 : Int32) (Q : Int32 → mS → Prop) : Prop := (∃ f8 : Nat, wX6_homes_l4 p1 Q f8 0 0 m0)
theorem hin_X6_homes_6 : ∀ w ∈ u_ws RX6 TX6 24, w ∈ wsX6_homes := by decide +kernel
set_option maxHeartbeats 8000000 in
set_option maxRecDepth 100000 in
theorem cX6_homes_ok (l : Launch) (hlt : l.stackTraces = false) (D : zD) (S0 : Nat) (g : zF) (m0 : mS) (p1 : Int32)  (Q : Int32 → mS → Prop) (h : wX6_homes m0 p1 Q) : Met l yX6_homes wsX6_homes { frames := 0, cells := 0, slots := 8 * (0), locals := 0 } (zPc D S0 (mR D S0 g m0) [.ref (S0 + 9), .int p1]) (va_Qi Q (zB D S0 (fun u => mR D S0 g u)) (zA S0)) (0) (8 * (0)) (zA S0) := by
  refine zMet (cc := cX6_homes) (maxL := 4) (ret := (some .int)) (by decide) rfl (Nat.le_of_ble_eq_true rfl) (fun p e s m args below meth c ls hx hb hr hml hown hts hlocks hnm hs hE hW hl => ?_)
  have hin6 := hin_X6_homes_6
  replace hl : lv_has ls 4 [(0, .ref (S0 + 9)), (1, .int p1)] := hl
  unfold wX6_homes at h
  refine lv_iconst (v := 0) hx hb dX6_homes_0 (by decide) ?_
  refine lv_istore_n (lv' := [(2, .int 0), (0, .ref (S0 + 9)), (1, .int p1)]) hx hb dX6_homes_1 rfl hl (by decide) rfl (fun ls hl => ?_)
  refine lv_iconst (v := 0) hx hb dX6_homes_2 (by decide) ?_
  refine lv_istore_n (lv' := [(3, .int 0), (2, .int 0), (0, .ref (S0 + 9)), (1, .int p1)]) hx hb dX6_homes_3 rfl hl (by decide) rfl (fun ls hl => ?_)
  have lp4 : ∀ (f4 : Nat) (x1 : Int32) (x2 : Int32) (m3 : mS) (H : Heap) (locs : List Loc) (ls : Array Slot), wX6_homes_l4 p1 Q f4 x1 x2 m3 → zW D S0 (mR D S0 g m3) s.heap H locs → lv_has ls 4 [(3, .int x1), (2, .int x2), (0, .ref (S0 + 9)), (1, .int p1)] → W p l e { frames := 0, cells := 0, slots := 8 * (0), locals := 0 } s m args below meth c H locs (0) (8 * (0)) (MQ below (va_Qi Q (zB D S0 (fun u => mR D S0 g u)) (zA S0)) args s (0) (8 * (0)) (zA S0)) (F0 m 4 ls []) := by
    intro f4
    induction f4 with
    | zero => intro x1 x2 m3 H locs ls h; exact h.elim
    | succ f4 ih4 =>
      intro x1 x2 m3 H locs ls h  hW hl
      unfold wX6_homes_l4 at h
      refine lv_iload_n hx hb dX6_homes_4 rfl (lv_at hl 0 rfl) ?_
      refine lv_aload_n hx hb dX6_homes_5 rfl (lv_at hl 2 rfl) ?_
      refine zw_get (C := RX6) (T := TX6) (N := 24) hx hb hts hin6 hown hE.1 hW mC_M rfl 7 (by decide) (hts (.fieldLink RX6 75 "UnionListModel" "copies" "I") (by decide +kernel)) (fun _ h9 => h9) rfl dX6_homes_6 ?_
      refine lv_icmp_ge (tgt := 36) hx hb dX6_homes_9 (by decide) (fun c_5 => ?_) (fun c_5 => ?_)
      · replace h := h.1 c_5
        refine lv_iload_n hx hb dX6_homes_36 rfl (lv_at hl 1 rfl) ?_
        refine W.widen (k := 0) (n := 8 * (0)) (by omega) (by omega) ?_
        exact (z_iret hx hb hr hlocks hW h dX6_homes_37)
      · replace h := h.2 c_5
        refine lv_iload_n hx hb dX6_homes_12 rfl (lv_at hl 1 rfl) ?_
        refine lv_aload_n hx hb dX6_homes_13 rfl (lv_at hl 2 rfl) ?_
        refine zw_get (C := RX6) (T := TX6) (N := 24) hx hb hts hin6 hown hE.1 hW mC_M rfl 0 (by decide) (hts (.fieldLink RX6 7 "UnionListModel" "home" "[I") (by decide +kernel)) (fun _ h9 => h9) rfl dX6_homes_14 ?_
        refine lv_iload_n hx hb dX6_homes_17 rfl (lv_at hl 0 rfl) ?_
        obtain ⟨hb_6, h⟩ := h
        refine zw_iald hx hb hE.1 hW mC_0 hb_6 dX6_homes_18 ?_
        refine lv_iload_n hx hb dX6_homes_19 rfl (lv_at hl 3 rfl) ?_
        refine lv_icmp_ne (tgt := 27) hx hb dX6_homes_20 (by decide) (fun c_7 => ?_) (fun c_7 => ?_)
        · replace h := h.2 c_7
          refine lv_iconst (v := 0) hx hb dX6_homes_27 (by decide) ?_
          refine lv_iadd hx hb dX6_homes_28 ?_
          refine lv_istore_n (lv' := [(2, .int (x2 + 0)), (3, .int x1), (0, .ref (S0 + 9)), (1, .int p1)]) hx hb dX6_homes_29 rfl hl (by decide) rfl (fun ls hl => ?_)
          refine lv_iinc (v := (x1 + 1)) (lv' := [(3, .int (x1 + 1)), (2, .int (x2 + 0)), (0, .ref (S0 + 9)), (1, .int p1)]) hx hb dX6_homes_30 hl (k := 1) rfl rfl (by decide) rfl (fun ls hl => ?_)
          refine lv_goto (tgt := 4) hx hb dX6_homes_33 (by decide) ?_
          exact ih4 (x1 + 1) (x2 + 0) m3 _ _ _ h  hW (lv_sub hl [0, 1, 2, 3] rfl)
        · replace h := h.1 c_7
          refine lv_iconst (v := 1) hx hb dX6_homes_23 (by decide) ?_
          refine lv_goto (tgt := 28) hx hb dX6_homes_24 (by decide) ?_
          refine lv_iadd hx hb dX6_homes_28 ?_
          refine lv_istore_n (lv' := [(2, .int (x2 + 1)), (3, .int x1), (0, .ref (S0 + 9)), (1, .int p1)]) hx hb dX6_homes_29 rfl hl (by decide) rfl (fun ls hl => ?_)
          refine lv_iinc (v := (x1 + 1)) (lv' := [(3, .int (x1 + 1)), (2, .int (x2 + 1)), (0, .ref (S0 + 9)), (1, .int p1)]) hx hb dX6_homes_30 hl (k := 1) rfl rfl (by decide) rfl (fun ls hl => ?_)
          refine lv_goto (tgt := 4) hx hb dX6_homes_33 (by decide) ?_
          exact ih4 (x1 + 1) (x2 + 1) m3 _ _ _ h  hW (lv_sub hl [0, 1, 2, 3] rfl)
  obtain ⟨f8, h⟩ := h
  exact lp4 f8 0 0 m0 _ _ _ h  hW (lv_sub hl [0, 1, 2, 3] rfl)

def wX6_answer (m0 : mS) (p1 : Int32) (Q : mS → Prop) : Prop := (vp_in p1 40 ∧ (wX6_free m0 (m0 11 p1.toNatClampNeg) (fun r2 m3 => ((r2 = 0 → (wX6_ask m3 p1 (fun m16 => Q m16))) ∧ (¬ r2 = 0 → (vp_in (m0 11 p1.toNatClampNeg) 20 ∧ (∀ m6 : mS, m6 = mset m3 2 (m0 11 p1.toNatClampNeg).toNatClampNeg (-1) → (vp_in p1 40 ∧ (∀ m8 : mS, m8 = mset m6 10 p1.toNatClampNeg 1 → (wX6_length m8 p1 (fun r9 m10 => (wX6_send m10 5 p1 r9 (fun r11 m12 => (wX6_tell m12 (m0 11 p1.toNatClampNeg) 0 (fun m14 => Q m14)))))))))))))))
theorem hin_X6_answer_6 : ∀ w ∈ u_ws RX6 TX6 24, w ∈ wsX6_answer := by decide +kernel
set_option maxHeartbeats 8000000 in
set_option maxRecDepth 100000 in
theorem cX6_answer_ok (l : Launch) (hlt : l.stackTraces = false) (D : zD) (S0 : Nat) (g : zF) (m0 : mS) (p1 : Int32)  (Q : mS → Prop) (h : wX6_answer m0 p1 Q) : Met l yX6_answer wsX6_answer { frames := 2, cells := 0, slots := 8 * (0), locals := 47 } (zPc D S0 (mR D S0 g m0) [.ref (S0 + 9), .int p1]) (va_Qv Q (zB D S0 (fun u => mR D S0 g u)) (zA S0)) (0) (8 * (0)) (zA S0) := by
  refine zMet (cc := cX6_answer) (maxL := 3) (ret := none) (by decide) rfl (Nat.le_of_ble_eq_true rfl) (fun p e s m args below meth c ls hx hb hr hml hown hts hlocks hnm hs hE hW hl => ?_)
  have hin6 := hin_X6_answer_6
  replace hl : lv_has ls 3 [(0, .ref (S0 + 9)), (1, .int p1)] := hl
  unfold wX6_answer at h
  refine lv_aload_n hx hb dX6_answer_0 rfl (lv_at hl 0 rfl) ?_
  refine zw_get (C := RX6) (T := TX6) (N := 24) hx hb hts hin6 hown hE.1 hW mC_M rfl 11 (by decide) (hts (.fieldLink RX6 40 "UnionListModel" "loaned" "[I") (by decide +kernel)) (fun _ h9 => h9) rfl dX6_answer_1 ?_
  refine lv_iload_n hx hb dX6_answer_4 rfl (lv_at hl 1 rfl) ?_
  obtain ⟨hb_1, h⟩ := h
  refine zw_iald hx hb hE.1 hW mC_11 hb_1 dX6_answer_5 ?_
  refine lv_istore_n (lv' := [(2, .int (m0 11 p1.toNatClampNeg)), (0, .ref (S0 + 9)), (1, .int p1)]) hx hb dX6_answer_6 rfl hl (by decide) rfl (fun ls hl => ?_)
  refine lv_aload_n hx hb dX6_answer_7 rfl (lv_at hl 1 rfl) ?_
  refine lv_iload_n hx hb dX6_answer_8 rfl (lv_at hl 0 rfl) ?_
  refine zc_i (va_runV (As := [.int (m0 11 p1.toNatClampNeg)]) (rest := []) ⟨hx, hb, hml, hown, hts⟩ (cX6_free_ok l hlt D S0 g m0 (m0 11 p1.toNatClampNeg) _ h) (cwV 1 hts gX6_answer_X6_free rfl rfl rfl (by decide +kernel) ⟨Nat.le_of_ble_eq_true rfl, Nat.le_of_ble_eq_true rfl⟩) (zpreV (q := (RX6, TX6, 24)) hE hs hW mC_M rfl) rfl rfl hl.1 rfl (lv_room (Nat.le_of_ble_eq_true rfl)) dX6_answer_9 ⟨by show _ ≤ 0; omega, by show _ ≤ 8 * (0); omega⟩) hW (fun r2 m3 H locs h hW => ?_)
  obtain ⟨h, hz_r2⟩ := h
  refine W.widen (k := 0) (n := 8 * (0)) (by omega) (by omega) ?_
  refine lv_if_ne (tgt := 21) hx hb dX6_answer_12 (by decide) (fun c_4 => ?_) (fun c_4 => ?_)
  · replace h := h.2 c_4
    refine lv_aload_n hx hb dX6_answer_21 rfl (lv_at hl 1 rfl) ?_
    refine zw_get (C := RX6) (T := TX6) (N := 24) hx hb hts hin6 hown hE.1 hW mC_M rfl 2 (by decide) (hts (.fieldLink RX6 16 "UnionListModel" "place" "[I") (by decide +kernel)) (fun _ h9 => h9) rfl dX6_answer_22 ?_
    refine lv_iload_n hx hb dX6_answer_25 rfl (lv_at hl 0 rfl) ?_
    refine lv_iconst (v := (-1)) hx hb dX6_answer_26 (by decide) ?_
    obtain ⟨hb_5, h⟩ := h
    refine zw_iast hx hb hE.1 hW mC_2 hb_5 dX6_answer_27 mP_2 (fun H locs hW => ?_)
    obtain ⟨m6, em6⟩ : ∃ y, y = mset m3 2 (m0 11 p1.toNatClampNeg).toNatClampNeg (-1) := ⟨_, rfl⟩
    rw [← em6] at hW
    replace h := h m6 em6
    refine lv_aload_n hx hb dX6_answer_28 rfl (lv_at hl 1 rfl) ?_
    refine zw_get (C := RX6) (T := TX6) (N := 24) hx hb hts hin6 hown hE.1 hW mC_M rfl 10 (by decide) (hts (.fieldLink RX6 37 "UnionListModel" "stage" "[I") (by decide +kernel)) (fun _ h9 => h9) rfl dX6_answer_29 ?_
    refine lv_iload_n hx hb dX6_answer_32 rfl (lv_at hl 2 rfl) ?_
    refine lv_iconst (v := 1) hx hb dX6_answer_33 (by decide) ?_
    obtain ⟨hb_7, h⟩ := h
    refine zw_iast hx hb hE.1 hW mC_10 hb_7 dX6_answer_34 mP_10 (fun H locs hW => ?_)
    obtain ⟨m8, em8⟩ : ∃ y, y = mset m6 10 p1.toNatClampNeg 1 := ⟨_, rfl⟩
    rw [← em8] at hW
    replace h := h m8 em8
    refine lv_aload_n hx hb dX6_answer_35 rfl (lv_at hl 1 rfl) ?_
    refine lv_iconst (v := 5) hx hb dX6_answer_36 (by decide) ?_
    refine lv_iload_n hx hb dX6_answer_37 rfl (lv_at hl 2 rfl) ?_
    refine lv_aload_n hx hb dX6_answer_38 rfl (lv_at hl 1 rfl) ?_
    refine lv_iload_n hx hb dX6_answer_39 rfl (lv_at hl 2 rfl) ?_
    refine zc_i (va_runV (As := [.int p1]) (rest := [.int p1, .int 5, .ref (S0 + 9)]) ⟨hx, hb, hml, hown, hts⟩ (cX6_length_ok l hlt D S0 g m8 p1 _ h) (cwV 1 hts gX6_answer_X6_length rfl rfl rfl (by decide +kernel) ⟨Nat.le_of_ble_eq_true rfl, Nat.le_of_ble_eq_true rfl⟩) (zpreV (q := (RX6, TX6, 24)) hE hs hW mC_M rfl) rfl rfl hl.1 rfl (lv_room (Nat.le_of_ble_eq_true rfl)) dX6_answer_40 ⟨by show _ ≤ 0; omega, by show _ ≤ 8 * (0); omega⟩) hW (fun r9 m10 H locs h hW => ?_)
    refine W.widen (k := 0) (n := 8 * (0)) (by omega) (by omega) ?_
    refine zc_i (va_runV (As := [.int 5, .int p1, .int r9]) (rest := []) ⟨hx, hb, hml, hown, hts⟩ (cX6_send_ok l hlt D S0 g m10 5 p1 r9 _ h) (cwV 3 hts gX6_answer_X6_send rfl rfl rfl (by decide +kernel) ⟨Nat.le_of_ble_eq_true rfl, Nat.le_of_ble_eq_true rfl⟩) (zpreV (q := (RX6, TX6, 24)) hE hs hW mC_M rfl) rfl rfl hl.1 rfl (lv_room (Nat.le_of_ble_eq_true rfl)) dX6_answer_43 ⟨by show _ ≤ 0; omega, by show _ ≤ 8 * (0); omega⟩) hW (fun r11 m12 H locs h hW => ?_)
    refine W.widen (k := 0) (n := 8 * (0)) (by omega) (by omega) ?_
    refine lv_pop hx hb dX6_answer_46 rfl ?_
    refine lv_aload_n hx hb dX6_answer_47 rfl (lv_at hl 1 rfl) ?_
    refine lv_iload_n hx hb dX6_answer_48 rfl (lv_at hl 0 rfl) ?_
    refine lv_iconst (v := 0) hx hb dX6_answer_49 (by decide) ?_
    refine zc_v (va_runV (As := [.int (m0 11 p1.toNatClampNeg), .int 0]) (rest := []) ⟨hx, hb, hml, hown, hts⟩ (cX6_tell_ok l hlt D S0 g m12 (m0 11 p1.toNatClampNeg) 0 _ h) (cwV 2 hts gX6_answer_X6_tell rfl rfl rfl (by decide +kernel) ⟨Nat.le_of_ble_eq_true rfl, Nat.le_of_ble_eq_true rfl⟩) (zpreV (q := (RX6, TX6, 24)) hE hs hW mC_M rfl) rfl rfl hl.1 rfl (lv_room (Nat.le_of_ble_eq_true rfl)) dX6_answer_50 ⟨by show _ ≤ 0; omega, by show _ ≤ 8 * (0); omega⟩) hW (fun m14 H locs h hW => ?_)
    refine W.widen (k := 0) (n := 8 * (0)) (by omega) (by omega) ?_
    refine W.widen (k := 0) (n := 8 * (0)) (by omega) (by omega) ?_
    exact (z_vret hx hb hr hlocks hW h dX6_answer_53)
  · replace h := h.1 c_4
    refine lv_aload_n hx hb dX6_answer_15 rfl (lv_at hl 1 rfl) ?_
    refine lv_iload_n hx hb dX6_answer_16 rfl (lv_at hl 2 rfl) ?_
    refine zc_v (va_runV (As := [.int p1]) (rest := []) ⟨hx, hb, hml, hown, hts⟩ (cX6_ask_ok l hlt D S0 g m3 p1 _ h) (cwV 1 hts gX6_answer_X6_ask rfl rfl rfl (by decide +kernel) ⟨Nat.le_of_ble_eq_true rfl, Nat.le_of_ble_eq_true rfl⟩) (zpreV (q := (RX6, TX6, 24)) hE hs hW mC_M rfl) rfl rfl hl.1 rfl (lv_room (Nat.le_of_ble_eq_true rfl)) dX6_answer_17 ⟨by show _ ≤ 0; omega, by show _ ≤ 8 * (0); omega⟩) hW (fun m16 H locs h hW => ?_)
    refine W.widen (k := 0) (n := 8 * (0)) (by omega) (by omega) ?_
    refine W.widen (k := 0) (n := 8 * (0)) (by omega) (by omega) ?_
    exact (z_vret hx hb hr hlocks hW h dX6_answer_20)

def wX6_come (m0 : mS) (p1 : Int32) (Q : mS → Prop) : Prop := (vp_in p1 40 ∧ (vp_in p1 40 ∧ (vp_in p1 40 ∧ (((m0 10 p1.toNatClampNeg) = 1 → (wX6_homes m0 (m0 8 p1.toNatClampNeg) (fun r20 m21 => ((3 ≤ r20 → (vp_in (m0 8 p1.toNatClampNeg) 6 ∧ (vp_in (m0 8 p1.toNatClampNeg) 6 ∧ (∀ m25 : mS, m25 = mset m21 21 (m0 8 p1.toNatClampNeg).toNatClampNeg ((m21 21 (m0 8 p1.toNatClampNeg).toNatClampNeg) + 0) → (vp_in (m0 11 p1.toNatClampNeg) 20 ∧ (wX6_owe m25 (m0 8 p1.toNatClampNeg) (m25 0 (m0 11 p1.toNatClampNeg).toNatClampNeg) 6 (fun m28 => (vp_in (m0 11 p1.toNatClampNeg) 20 ∧ (∀ m30 : mS, m30 = mset m28 2 (m0 11 p1.toNatClampNeg).toNatClampNeg (m0 8 p1.toNatClampNeg) → (vp_in (m0 11 p1.toNatClampNeg) 20 ∧ (∀ m32 : mS, m32 = mset m30 3 (m0 11 p1.toNatClampNeg).toNatClampNeg (m0 8 p1.toNatClampNeg) → (vp_in p1 40 ∧ (∀ m34 : mS, m34 = mset m32 10 p1.toNatClampNeg 2 → (vp_in p1 40 ∧ (∀ m36 : mS, m36 = mset m34 12 p1.toNatClampNeg ((m34 22 0) + 20) → Q m36))))))))))))))) ∧ (¬ 3 ≤ r20 → (vp_in (m0 8 p1.toNatClampNeg) 6 ∧ ((2 ≤ (m21 21 (m0 8 p1.toNatClampNeg).toNatClampNeg) → (vp_in (m0 8 p1.toNatClampNeg) 6 ∧ (vp_in (m0 8 p1.toNatClampNeg) 6 ∧ (∀ m41 : mS, m41 = mset m21 21 (m0 8 p1.toNatClampNeg).toNatClampNeg ((m21 21 (m0 8 p1.toNatClampNeg).toNatClampNeg) + 0) → (vp_in (m0 11 p1.toNatClampNeg) 20 ∧ (wX6_owe m41 (m0 8 p1.toNatClampNeg) (m41 0 (m0 11 p1.toNatClampNeg).toNatClampNeg) 6 (fun m44 => (vp_in (m0 11 p1.toNatClampNeg) 20 ∧ (∀ m46 : mS, m46 = mset m44 2 (m0 11 p1.toNatClampNeg).toNatClampNeg (m0 8 p1.toNatClampNeg) → (vp_in (m0 11 p1.toNatClampNeg) 20 ∧ (∀ m48 : mS, m48 = mset m46 3 (m0 11 p1.toNatClampNeg).toNatClampNeg (m0 8 p1.toNatClampNeg) → (vp_in p1 40 ∧ (∀ m50 : mS, m50 = mset m48 10 p1.toNatClampNeg 2 → (vp_in p1 40 ∧ (∀ m52 : mS, m52 = mset m50 12 p1.toNatClampNeg ((m50 22 0) + 20) → Q m52))))))))))))))) ∧ (¬ 2 ≤ (m21 21 (m0 8 p1.toNatClampNeg).toNatClampNeg) → (vp_in (m0 8 p1.toNatClampNeg) 6 ∧ (vp_in (m0 8 p1.toNatClampNeg) 6 ∧ (∀ m55 : mS, m55 = mset m21 21 (m0 8 p1.toNatClampNeg).toNatClampNeg ((m21 21 (m0 8 p1.toNatClampNeg).toNatClampNeg) + 1) → (vp_in (m0 11 p1.toNatClampNeg) 20 ∧ (wX6_owe m55 (m0 8 p1.toNatClampNeg) (m55 0 (m0 11 p1.toNatClampNeg).toNatClampNeg) 0 (fun m58 => (vp_in (m0 11 p1.toNatClampNeg) 20 ∧ (∀ m60 : mS, m60 = mset m58 2 (m0 11 p1.toNatClampNeg).toNatClampNeg (m0 8 p1.toNatClampNeg) → (vp_in (m0 11 p1.toNatClampNeg) 20 ∧ (∀ m62 : mS, m62 = mset m60 3 (m0 11 p1.toNatClampNeg).toNatClampNeg (m0 8 p1.toNatClampNeg) → (vp_in p1 40 ∧ (∀ m64 : mS, m64 = mset m62 10 p1.toNatClampNeg 2 → (vp_in p1 40 ∧ (∀ m66 : mS, m66 = mset m64 12 p1.toNatClampNeg ((m64 22 0) + 20) → Q m66)))))))))))))))))))))) ∧ (¬ (m0 10 p1.toNatClampNeg) = 1 → (vp_in (m0 11 p1.toNatClampNeg) 20 ∧ (vp_in (m0 11 p1.toNatClampNeg) 20 ∧ (∀ m7 : mS, m7 = mset m0 2 (m0 11 p1.toNatClampNeg).toNatClampNeg (m0 0 (m0 11 p1.toNatClampNeg).toNatClampNeg) → (vp_in (m0 11 p1.toNatClampNeg) 20 ∧ (vp_in (m0 11 p1.toNatClampNeg) 20 ∧ (∀ m10 : mS, m10 = mset m7 3 (m0 11 p1.toNatClampNeg).toNatClampNeg (m7 0 (m0 11 p1.toNatClampNeg).toNatClampNeg) → (vp_in p1 40 ∧ (∀ m12 : mS, m12 = mset m10 10 p1.toNatClampNeg 4 → (wX6_find m12 (m0 11 p1.toNatClampNeg) (fun r13 m14 => (wX6_free m14 (m0 11 p1.toNatClampNeg) (fun r15 m16 => ((r15 = 0 → Q m16) ∧ (¬ r15 = 0 → (wX6_tell m16 (m0 11 p1.toNatClampNeg) 1 (fun m19 => Q m19)))))))))))))))))))))
theorem hin_X6_come_6 : ∀ w ∈ u_ws RX6 TX6 24, w ∈ wsX6_come := by decide +kernel
set_option maxHeartbeats 8000000 in
set_option maxRecDepth 100000 in
theorem cX6_come_ok (l : Launch) (hlt : l.stackTraces = false) (D : zD) (S0 : Nat) (g : zF) (m0 : mS) (p1 : Int32)  (Q : mS → Prop) (h : wX6_come m0 p1 Q) : Met l yX6_come wsX6_come { frames := 2, cells := 0, slots := 8 * (0), locals := 45 } (zPc D S0 (mR D S0 g m0) [.ref (S0 + 9), .int p1]) (va_Qv Q (zB D S0 (fun u => mR D S0 g u)) (zA S0)) (0) (8 * (0)) (zA S0) := by
  refine zMet (cc := cX6_come) (maxL := 5) (ret := none) (by decide) rfl (Nat.le_of_ble_eq_true rfl) (fun p e s m args below meth c ls hx hb hr hml hown hts hlocks hnm hs hE hW hl => ?_)
  have hin6 := hin_X6_come_6
  replace hl : lv_has ls 5 [(0, .ref (S0 + 9)), (1, .int p1)] := hl
  unfold wX6_come at h
  refine lv_aload_n hx hb dX6_come_0 rfl (lv_at hl 0 rfl) ?_
  refine zw_get (C := RX6) (T := TX6) (N := 24) hx hb hts hin6 hown hE.1 hW mC_M rfl 11 (by decide) (hts (.fieldLink RX6 40 "UnionListModel" "loaned" "[I") (by decide +kernel)) (fun _ h9 => h9) rfl dX6_come_1 ?_
  refine lv_iload_n hx hb dX6_come_4 rfl (lv_at hl 1 rfl) ?_
  obtain ⟨hb_1, h⟩ := h
  refine zw_iald hx hb hE.1 hW mC_11 hb_1 dX6_come_5 ?_
  refine lv_istore_n (lv' := [(2, .int (m0 11 p1.toNatClampNeg)), (0, .ref (S0 + 9)), (1, .int p1)]) hx hb dX6_come_6 rfl hl (by decide) rfl (fun ls hl => ?_)
  refine lv_aload_n hx hb dX6_come_7 rfl (lv_at hl 1 rfl) ?_
  refine zw_get (C := RX6) (T := TX6) (N := 24) hx hb hts hin6 hown hE.1 hW mC_M rfl 8 (by decide) (hts (.fieldLink RX6 31 "UnionListModel" "whose" "[I") (by decide +kernel)) (fun _ h9 => h9) rfl dX6_come_8 ?_
  refine lv_iload_n hx hb dX6_come_11 rfl (lv_at hl 2 rfl) ?_
  obtain ⟨hb_2, h⟩ := h
  refine zw_iald hx hb hE.1 hW mC_8 hb_2 dX6_come_12 ?_
  refine lv_istore_n (lv' := [(3, .int (m0 8 p1.toNatClampNeg)), (2, .int (m0 11 p1.toNatClampNeg)), (0, .ref (S0 + 9)), (1, .int p1)]) hx hb dX6_come_13 rfl hl (by decide) rfl (fun ls hl => ?_)
  refine lv_aload_n hx hb dX6_come_14 rfl (lv_at hl 2 rfl) ?_
  refine zw_get (C := RX6) (T := TX6) (N := 24) hx hb hts hin6 hown hE.1 hW mC_M rfl 10 (by decide) (hts (.fieldLink RX6 37 "UnionListModel" "stage" "[I") (by decide +kernel)) (fun _ h9 => h9) rfl dX6_come_15 ?_
  refine lv_iload_n hx hb dX6_come_18 rfl (lv_at hl 3 rfl) ?_
  obtain ⟨hb_3, h⟩ := h
  refine zw_iald hx hb hE.1 hW mC_10 hb_3 dX6_come_19 ?_
  refine lv_iconst (v := 1) hx hb dX6_come_20 (by decide) ?_
  refine lv_icmp_ne (tgt := 126) hx hb dX6_come_21 (by decide) (fun c_4 => ?_) (fun c_4 => ?_)
  · replace h := h.2 c_4
    refine lv_aload_n hx hb dX6_come_126 rfl (lv_at hl 2 rfl) ?_
    refine zw_get (C := RX6) (T := TX6) (N := 24) hx hb hts hin6 hown hE.1 hW mC_M rfl 2 (by decide) (hts (.fieldLink RX6 16 "UnionListModel" "place" "[I") (by decide +kernel)) (fun _ h9 => h9) rfl dX6_come_127 ?_
    refine lv_iload_n hx hb dX6_come_130 rfl (lv_at hl 1 rfl) ?_
    refine lv_aload_n hx hb dX6_come_131 rfl (lv_at hl 2 rfl) ?_
    refine zw_get (C := RX6) (T := TX6) (N := 24) hx hb hts hin6 hown hE.1 hW mC_M rfl 0 (by decide) (hts (.fieldLink RX6 7 "UnionListModel" "home" "[I") (by decide +kernel)) (fun _ h9 => h9) rfl dX6_come_132 ?_
    refine lv_iload_n hx hb dX6_come_135 rfl (lv_at hl 1 rfl) ?_
    obtain ⟨hb_5, h⟩ := h
    refine zw_iald hx hb hE.1 hW mC_0 hb_5 dX6_come_136 ?_
    obtain ⟨hb_6, h⟩ := h
    refine zw_iast hx hb hE.1 hW mC_2 hb_6 dX6_come_137 mP_2 (fun H locs hW => ?_)
    obtain ⟨m7, em7⟩ : ∃ y, y = mset m0 2 (m0 11 p1.toNatClampNeg).toNatClampNeg (m0 0 (m0 11 p1.toNatClampNeg).toNatClampNeg) := ⟨_, rfl⟩
    rw [← em7] at hW
    replace h := h m7 em7
    refine lv_aload_n hx hb dX6_come_138 rfl (lv_at hl 2 rfl) ?_
    refine zw_get (C := RX6) (T := TX6) (N := 24) hx hb hts hin6 hown hE.1 hW mC_M rfl 3 (by decide) (hts (.fieldLink RX6 19 "UnionListModel" "hands" "[I") (by decide +kernel)) (fun _ h9 => h9) rfl dX6_come_139 ?_
    refine lv_iload_n hx hb dX6_come_142 rfl (lv_at hl 1 rfl) ?_
    refine lv_aload_n hx hb dX6_come_143 rfl (lv_at hl 2 rfl) ?_
    refine zw_get (C := RX6) (T := TX6) (N := 24) hx hb hts hin6 hown hE.1 hW mC_M rfl 0 (by decide) (hts (.fieldLink RX6 7 "UnionListModel" "home" "[I") (by decide +kernel)) (fun _ h9 => h9) rfl dX6_come_144 ?_
    refine lv_iload_n hx hb dX6_come_147 rfl (lv_at hl 1 rfl) ?_
    obtain ⟨hb_8, h⟩ := h
    refine zw_iald hx hb hE.1 hW mC_0 hb_8 dX6_come_148 ?_
    obtain ⟨hb_9, h⟩ := h
    refine zw_iast hx hb hE.1 hW mC_3 hb_9 dX6_come_149 mP_3 (fun H locs hW => ?_)
    obtain ⟨m10, em10⟩ : ∃ y, y = mset m7 3 (m0 11 p1.toNatClampNeg).toNatClampNeg (m7 0 (m0 11 p1.toNatClampNeg).toNatClampNeg) := ⟨_, rfl⟩
    rw [← em10] at hW
    replace h := h m10 em10
    refine lv_aload_n hx hb dX6_come_150 rfl (lv_at hl 2 rfl) ?_
    refine zw_get (C := RX6) (T := TX6) (N := 24) hx hb hts hin6 hown hE.1 hW mC_M rfl 10 (by decide) (hts (.fieldLink RX6 37 "UnionListModel" "stage" "[I") (by decide +kernel)) (fun _ h9 => h9) rfl dX6_come_151 ?_
    refine lv_iload_n hx hb dX6_come_154 rfl (lv_at hl 3 rfl) ?_
    refine lv_iconst (v := 4) hx hb dX6_come_155 (by decide) ?_
    obtain ⟨hb_11, h⟩ := h
    refine zw_iast hx hb hE.1 hW mC_10 hb_11 dX6_come_156 mP_10 (fun H locs hW => ?_)
    obtain ⟨m12, em12⟩ : ∃ y, y = mset m10 10 p1.toNatClampNeg 4 := ⟨_, rfl⟩
    rw [← em12] at hW
    replace h := h m12 em12
    refine lv_aload_n hx hb dX6_come_157 rfl (lv_at hl 2 rfl) ?_
    refine lv_iload_n hx hb dX6_come_158 rfl (lv_at hl 1 rfl) ?_
    refine zc_i (va_runV (As := [.int (m0 11 p1.toNatClampNeg)]) (rest := []) ⟨hx, hb, hml, hown, hts⟩ (cX6_find_ok l hlt D S0 g m12 (m0 11 p1.toNatClampNeg) _ h) (cwV 1 hts gX6_come_X6_find rfl rfl rfl (by decide +kernel) ⟨Nat.le_of_ble_eq_true rfl, Nat.le_of_ble_eq_true rfl⟩) (zpreV (q := (RX6, TX6, 24)) hE hs hW mC_M rfl) rfl rfl hl.1 rfl (lv_room (Nat.le_of_ble_eq_true rfl)) dX6_come_159 ⟨by show _ ≤ 0; omega, by show _ ≤ 8 * (0); omega⟩) hW (fun r13 m14 H locs h hW => ?_)
    refine W.widen (k := 0) (n := 8 * (0)) (by omega) (by omega) ?_
    refine lv_pop hx hb dX6_come_162 rfl ?_
    refine lv_aload_n hx hb dX6_come_163 rfl (lv_at hl 2 rfl) ?_
    refine lv_iload_n hx hb dX6_come_164 rfl (lv_at hl 1 rfl) ?_
    refine zc_i (va_runV (As := [.int (m0 11 p1.toNatClampNeg)]) (rest := []) ⟨hx, hb, hml, hown, hts⟩ (cX6_free_ok l hlt D S0 g m14 (m0 11 p1.toNatClampNeg) _ h) (cwV 1 hts gX6_come_X6_free rfl rfl rfl (by decide +kernel) ⟨Nat.le_of_ble_eq_true rfl, Nat.le_of_ble_eq_true rfl⟩) (zpreV (q := (RX6, TX6, 24)) hE hs hW mC_M rfl) rfl rfl hl.1 rfl (lv_room (Nat.le_of_ble_eq_true rfl)) dX6_come_165 ⟨by show _ ≤ 0; omega, by show _ ≤ 8 * (0); omega⟩) hW (fun r15 m16 H locs h hW => ?_)
    obtain ⟨h, hz_r15⟩ := h
    refine W.widen (k := 0) (n := 8 * (0)) (by omega) (by omega) ?_
    refine lv_if_eq (tgt := 177) hx hb dX6_come_168 (by decide) (fun c_17 => ?_) (fun c_17 => ?_)
    · replace h := h.1 c_17
      refine W.widen (k := 0) (n := 8 * (0)) (by omega) (by omega) ?_
      exact (z_vret hx hb hr hlocks hW h dX6_come_177)
    · replace h := h.2 c_17
      refine lv_aload_n hx hb dX6_come_171 rfl (lv_at hl 2 rfl) ?_
      refine lv_iload_n hx hb dX6_come_172 rfl (lv_at hl 1 rfl) ?_
      refine lv_iconst (v := 1) hx hb dX6_come_173 (by decide) ?_
      refine zc_v (va_runV (As := [.int (m0 11 p1.toNatClampNeg), .int 1]) (rest := []) ⟨hx, hb, hml, hown, hts⟩ (cX6_tell_ok l hlt D S0 g m16 (m0 11 p1.toNatClampNeg) 1 _ h) (cwV 2 hts gX6_come_X6_tell rfl rfl rfl (by decide +kernel) ⟨Nat.le_of_ble_eq_true rfl, Nat.le_of_ble_eq_true rfl⟩) (zpreV (q := (RX6, TX6, 24)) hE hs hW mC_M rfl) rfl rfl hl.1 rfl (lv_room (Nat.le_of_ble_eq_true rfl)) dX6_come_174 ⟨by show _ ≤ 0; omega, by show _ ≤ 8 * (0); omega⟩) hW (fun m19 H locs h hW => ?_)
      refine W.widen (k := 0) (n := 8 * (0)) (by omega) (by omega) ?_
      refine W.widen (k := 0) (n := 8 * (0)) (by omega) (by omega) ?_
      exact (z_vret hx hb hr hlocks hW h dX6_come_177)
  · replace h := h.1 c_4
    refine lv_aload_n hx hb dX6_come_24 rfl (lv_at hl 2 rfl) ?_
    refine lv_iload_n hx hb dX6_come_25 rfl (lv_at hl 0 rfl) ?_
    refine zc_i (va_runV (As := [.int (m0 8 p1.toNatClampNeg)]) (rest := []) ⟨hx, hb, hml, hown, hts⟩ (cX6_homes_ok l hlt D S0 g m0 (m0 8 p1.toNatClampNeg) _ h) (cwV 1 hts gX6_come_X6_homes rfl rfl rfl (by decide +kernel) ⟨Nat.le_of_ble_eq_true rfl, Nat.le_of_ble_eq_true rfl⟩) (zpreV (q := (RX6, TX6, 24)) hE hs hW mC_M rfl) rfl rfl hl.1 rfl (lv_room (Nat.le_of_ble_eq_true rfl)) dX6_come_26 ⟨by show _ ≤ 0; omega, by show _ ≤ 8 * (0); omega⟩) hW (fun r20 m21 H locs h hW => ?_)
    refine W.widen (k := 0) (n := 8 * (0)) (by omega) (by omega) ?_
    refine lv_iconst (v := 3) hx hb dX6_come_29 (by decide) ?_
    refine lv_icmp_ge (tgt := 47) hx hb dX6_come_30 (by decide) (fun c_22 => ?_) (fun c_22 => ?_)
    · replace h := h.1 c_22
      refine lv_iconst (v := 0) hx hb dX6_come_47 (by decide) ?_
      refine lv_istore (lv' := [(4, .int 0), (3, .int (m0 8 p1.toNatClampNeg)), (2, .int (m0 11 p1.toNatClampNeg)), (0, .ref (S0 + 9)), (1, .int p1)]) hx hb dX6_come_48 hl (by decide) rfl (fun ls hl => ?_)
      refine lv_aload_n hx hb dX6_come_50 rfl (lv_at hl 3 rfl) ?_
      refine zw_get (C := RX6) (T := TX6) (N := 24) hx hb hts hin6 hown hE.1 hW mC_M rfl 21 (by decide) (hts (.fieldLink RX6 64 "UnionListModel" "spared" "[I") (by decide +kernel)) (fun _ h9 => h9) rfl dX6_come_51 ?_
      refine lv_iload_n hx hb dX6_come_54 rfl (lv_at hl 1 rfl) ?_
      refine lv_dup2_11 hx hb dX6_come_55 rfl rfl ?_
      obtain ⟨hb_23, h⟩ := h
      refine zw_iald hx hb hE.1 hW mC_21 hb_23 dX6_come_56 ?_
      refine lv_iload hx hb dX6_come_57 (lv_at hl 0 rfl) ?_
      refine lv_if_eq (tgt := 66) hx hb dX6_come_59 (by decide) (fun _ => ?_) (fun h9 => absurd (by decide) h9)
      refine lv_iconst (v := 0) hx hb dX6_come_66 (by decide) ?_
      refine lv_iadd hx hb dX6_come_67 ?_
      obtain ⟨hb_24, h⟩ := h
      refine zw_iast hx hb hE.1 hW mC_21 hb_24 dX6_come_68 mP_21 (fun H locs hW => ?_)
      obtain ⟨m25, em25⟩ : ∃ y, y = mset m21 21 (m0 8 p1.toNatClampNeg).toNatClampNeg ((m21 21 (m0 8 p1.toNatClampNeg).toNatClampNeg) + 0) := ⟨_, rfl⟩
      rw [← em25] at hW
      replace h := h m25 em25
      refine lv_aload_n hx hb dX6_come_69 rfl (lv_at hl 3 rfl) ?_
      refine lv_iload_n hx hb dX6_come_70 rfl (lv_at hl 1 rfl) ?_
      refine lv_aload_n hx hb dX6_come_71 rfl (lv_at hl 3 rfl) ?_
      refine zw_get (C := RX6) (T := TX6) (N := 24) hx hb hts hin6 hown hE.1 hW mC_M rfl 0 (by decide) (hts (.fieldLink RX6 7 "UnionListModel" "home" "[I") (by decide +kernel)) (fun _ h9 => h9) rfl dX6_come_72 ?_
      refine lv_iload_n hx hb dX6_come_75 rfl (lv_at hl 2 rfl) ?_
      obtain ⟨hb_26, h⟩ := h
      refine zw_iald hx hb hE.1 hW mC_0 hb_26 dX6_come_76 ?_
      refine lv_iload hx hb dX6_come_77 (lv_at hl 0 rfl) ?_
      refine lv_if_eq (tgt := 86) hx hb dX6_come_79 (by decide) (fun _ => ?_) (fun h9 => absurd (by decide) h9)
      refine lv_bipush (v := 6) hx hb dX6_come_86 (by decide) ?_
      refine zc_v (va_runV (As := [.int (m0 8 p1.toNatClampNeg), .int (m25 0 (m0 11 p1.toNatClampNeg).toNatClampNeg), .int 6]) (rest := []) ⟨hx, hb, hml, hown, hts⟩ (cX6_owe_ok l hlt D S0 g m25 (m0 8 p1.toNatClampNeg) (m25 0 (m0 11 p1.toNatClampNeg).toNatClampNeg) 6 _ h) (cwV 3 hts gX6_come_X6_owe rfl rfl rfl (by decide +kernel) ⟨Nat.le_of_ble_eq_true rfl, Nat.le_of_ble_eq_true rfl⟩) (zpreV (q := (RX6, TX6, 24)) hE hs hW mC_M rfl) rfl rfl hl.1 rfl (lv_room (Nat.le_of_ble_eq_true rfl)) dX6_come_88 ⟨by show _ ≤ 0; omega, by show _ ≤ 8 * (0); omega⟩) hW (fun m28 H locs h hW => ?_)
      refine W.widen (k := 0) (n := 8 * (0)) (by omega) (by omega) ?_
      refine lv_aload_n hx hb dX6_come_91 rfl (lv_at hl 3 rfl) ?_
      refine zw_get (C := RX6) (T := TX6) (N := 24) hx hb hts hin6 hown hE.1 hW mC_M rfl 2 (by decide) (hts (.fieldLink RX6 16 "UnionListModel" "place" "[I") (by decide +kernel)) (fun _ h9 => h9) rfl dX6_come_92 ?_
      refine lv_iload_n hx hb dX6_come_95 rfl (lv_at hl 2 rfl) ?_
      refine lv_iload_n hx hb dX6_come_96 rfl (lv_at hl 1 rfl) ?_
      obtain ⟨hb_29, h⟩ := h
      refine zw_iast hx hb hE.1 hW mC_2 hb_29 dX6_come_97 mP_2 (fun H locs hW => ?_)
      obtain ⟨m30, em30⟩ : ∃ y, y = mset m28 2 (m0 11 p1.toNatClampNeg).toNatClampNeg (m0 8 p1.toNatClampNeg) := ⟨_, rfl⟩
      rw [← em30] at hW
      replace h := h m30 em30
      refine lv_aload_n hx hb dX6_come_98 rfl (lv_at hl 3 rfl) ?_
      refine zw_get (C := RX6) (T := TX6) (N := 24) hx hb hts hin6 hown hE.1 hW mC_M rfl 3 (by decide) (hts (.fieldLink RX6 19 "UnionListModel" "hands" "[I") (by decide +kernel)) (fun _ h9 => h9) rfl dX6_come_99 ?_
      refine lv_iload_n hx hb dX6_come_102 rfl (lv_at hl 2 rfl) ?_
      refine lv_iload_n hx hb dX6_come_103 rfl (lv_at hl 1 rfl) ?_
      obtain ⟨hb_31, h⟩ := h
      refine zw_iast hx hb hE.1 hW mC_3 hb_31 dX6_come_104 mP_3 (fun H locs hW => ?_)
      obtain ⟨m32, em32⟩ : ∃ y, y = mset m30 3 (m0 11 p1.toNatClampNeg).toNatClampNeg (m0 8 p1.toNatClampNeg) := ⟨_, rfl⟩
      rw [← em32] at hW
      replace h := h m32 em32
      refine lv_aload_n hx hb dX6_come_105 rfl (lv_at hl 3 rfl) ?_
      refine zw_get (C := RX6) (T := TX6) (N := 24) hx hb hts hin6 hown hE.1 hW mC_M rfl 10 (by decide) (hts (.fieldLink RX6 37 "UnionListModel" "stage" "[I") (by decide +kernel)) (fun _ h9 => h9) rfl dX6_come_106 ?_
      refine lv_iload_n hx hb dX6_come_109 rfl (lv_at hl 4 rfl) ?_
      refine lv_iconst (v := 2) hx hb dX6_come_110 (by decide) ?_
      obtain ⟨hb_33, h⟩ := h
      refine zw_iast hx hb hE.1 hW mC_10 hb_33 dX6_come_111 mP_10 (fun H locs hW => ?_)
      obtain ⟨m34, em34⟩ : ∃ y, y = mset m32 10 p1.toNatClampNeg 2 := ⟨_, rfl⟩
      rw [← em34] at hW
      replace h := h m34 em34
      refine lv_aload_n hx hb dX6_come_112 rfl (lv_at hl 3 rfl) ?_
      refine zw_get (C := RX6) (T := TX6) (N := 24) hx hb hts hin6 hown hE.1 hW mC_M rfl 12 (by decide) (hts (.fieldLink RX6 43 "UnionListModel" "until" "[I") (by decide +kernel)) (fun _ h9 => h9) rfl dX6_come_113 ?_
      refine lv_iload_n hx hb dX6_come_116 rfl (lv_at hl 4 rfl) ?_
      refine lv_aload_n hx hb dX6_come_117 rfl (lv_at hl 3 rfl) ?_
      refine zw_get (C := RX6) (T := TX6) (N := 24) hx hb hts hin6 hown hE.1 hW mC_M rfl 22 (by decide) (hts (.fieldLink RX6 84 "UnionListModel" "now" "I") (by decide +kernel)) (fun _ h9 => h9) rfl dX6_come_118 ?_
      refine lv_bipush (v := 20) hx hb dX6_come_121 (by decide) ?_
      refine lv_iadd hx hb dX6_come_123 ?_
      obtain ⟨hb_35, h⟩ := h
      refine zw_iast hx hb hE.1 hW mC_12 hb_35 dX6_come_124 mP_12 (fun H locs hW => ?_)
      obtain ⟨m36, em36⟩ : ∃ y, y = mset m34 12 p1.toNatClampNeg ((m34 22 0) + 20) := ⟨_, rfl⟩
      rw [← em36] at hW
      replace h := h m36 em36
      refine W.widen (k := 0) (n := 8 * (0)) (by omega) (by omega) ?_
      exact (z_vret hx hb hr hlocks hW h dX6_come_125)
    · replace h := h.2 c_22
      refine lv_aload_n hx hb dX6_come_33 rfl (lv_at hl 2 rfl) ?_
      refine zw_get (C := RX6) (T := TX6) (N := 24) hx hb hts hin6 hown hE.1 hW mC_M rfl 21 (by decide) (hts (.fieldLink RX6 64 "UnionListModel" "spared" "[I") (by decide +kernel)) (fun _ h9 => h9) rfl dX6_come_34 ?_
      refine lv_iload_n hx hb dX6_come_37 rfl (lv_at hl 0 rfl) ?_
      obtain ⟨hb_37, h⟩ := h
      refine zw_iald hx hb hE.1 hW mC_21 hb_37 dX6_come_38 ?_
      refine lv_iconst (v := 2) hx hb dX6_come_39 (by decide) ?_
      refine lv_icmp_ge (tgt := 47) hx hb dX6_come_40 (by decide) (fun c_38 => ?_) (fun c_38 => ?_)
      · replace h := h.1 c_38
        refine lv_iconst (v := 0) hx hb dX6_come_47 (by decide) ?_
        refine lv_istore (lv' := [(4, .int 0), (3, .int (m0 8 p1.toNatClampNeg)), (2, .int (m0 11 p1.toNatClampNeg)), (0, .ref (S0 + 9)), (1, .int p1)]) hx hb dX6_come_48 hl (by decide) rfl (fun ls hl => ?_)
        refine lv_aload_n hx hb dX6_come_50 rfl (lv_at hl 3 rfl) ?_
        refine zw_get (C := RX6) (T := TX6) (N := 24) hx hb hts hin6 hown hE.1 hW mC_M rfl 21 (by decide) (hts (.fieldLink RX6 64 "UnionListModel" "spared" "[I") (by decide +kernel)) (fun _ h9 => h9) rfl dX6_come_51 ?_
        refine lv_iload_n hx hb dX6_come_54 rfl (lv_at hl 1 rfl) ?_
        refine lv_dup2_11 hx hb dX6_come_55 rfl rfl ?_
        obtain ⟨hb_39, h⟩ := h
        refine zw_iald hx hb hE.1 hW mC_21 hb_39 dX6_come_56 ?_
        refine lv_iload hx hb dX6_come_57 (lv_at hl 0 rfl) ?_
        refine lv_if_eq (tgt := 66) hx hb dX6_come_59 (by decide) (fun _ => ?_) (fun h9 => absurd (by decide) h9)
        refine lv_iconst (v := 0) hx hb dX6_come_66 (by decide) ?_
        refine lv_iadd hx hb dX6_come_67 ?_
        obtain ⟨hb_40, h⟩ := h
        refine zw_iast hx hb hE.1 hW mC_21 hb_40 dX6_come_68 mP_21 (fun H locs hW => ?_)
        obtain ⟨m41, em41⟩ : ∃ y, y = mset m21 21 (m0 8 p1.toNatClampNeg).toNatClampNeg ((m21 21 (m0 8 p1.toNatClampNeg).toNatClampNeg) + 0) := ⟨_, rfl⟩
        rw [← em41] at hW
        replace h := h m41 em41
        refine lv_aload_n hx hb dX6_come_69 rfl (lv_at hl 3 rfl) ?_
        refine lv_iload_n hx hb dX6_come_70 rfl (lv_at hl 1 rfl) ?_
        refine lv_aload_n hx hb dX6_come_71 rfl (lv_at hl 3 rfl) ?_
        refine zw_get (C := RX6) (T := TX6) (N := 24) hx hb hts hin6 hown hE.1 hW mC_M rfl 0 (by decide) (hts (.fieldLink RX6 7 "UnionListModel" "home" "[I") (by decide +kernel)) (fun _ h9 => h9) rfl dX6_come_72 ?_
        refine lv_iload_n hx hb dX6_come_75 rfl (lv_at hl 2 rfl) ?_
        obtain ⟨hb_42, h⟩ := h
        refine zw_iald hx hb hE.1 hW mC_0 hb_42 dX6_come_76 ?_
        refine lv_iload hx hb dX6_come_77 (lv_at hl 0 rfl) ?_
        refine lv_if_eq (tgt := 86) hx hb dX6_come_79 (by decide) (fun _ => ?_) (fun h9 => absurd (by decide) h9)
        refine lv_bipush (v := 6) hx hb dX6_come_86 (by decide) ?_
        refine zc_v (va_runV (As := [.int (m0 8 p1.toNatClampNeg), .int (m41 0 (m0 11 p1.toNatClampNeg).toNatClampNeg), .int 6]) (rest := []) ⟨hx, hb, hml, hown, hts⟩ (cX6_owe_ok l hlt D S0 g m41 (m0 8 p1.toNatClampNeg) (m41 0 (m0 11 p1.toNatClampNeg).toNatClampNeg) 6 _ h) (cwV 3 hts gX6_come_X6_owe rfl rfl rfl (by decide +kernel) ⟨Nat.le_of_ble_eq_true rfl, Nat.le_of_ble_eq_true rfl⟩) (zpreV (q := (RX6, TX6, 24)) hE hs hW mC_M rfl) rfl rfl hl.1 rfl (lv_room (Nat.le_of_ble_eq_true rfl)) dX6_come_88 ⟨by show _ ≤ 0; omega, by show _ ≤ 8 * (0); omega⟩) hW (fun m44 H locs h hW => ?_)
        refine W.widen (k := 0) (n := 8 * (0)) (by omega) (by omega) ?_
        refine lv_aload_n hx hb dX6_come_91 rfl (lv_at hl 3 rfl) ?_
        refine zw_get (C := RX6) (T := TX6) (N := 24) hx hb hts hin6 hown hE.1 hW mC_M rfl 2 (by decide) (hts (.fieldLink RX6 16 "UnionListModel" "place" "[I") (by decide +kernel)) (fun _ h9 => h9) rfl dX6_come_92 ?_
        refine lv_iload_n hx hb dX6_come_95 rfl (lv_at hl 2 rfl) ?_
        refine lv_iload_n hx hb dX6_come_96 rfl (lv_at hl 1 rfl) ?_
        obtain ⟨hb_45, h⟩ := h
        refine zw_iast hx hb hE.1 hW mC_2 hb_45 dX6_come_97 mP_2 (fun H locs hW => ?_)
        obtain ⟨m46, em46⟩ : ∃ y, y = mset m44 2 (m0 11 p1.toNatClampNeg).toNatClampNeg (m0 8 p1.toNatClampNeg) := ⟨_, rfl⟩
        rw [← em46] at hW
        replace h := h m46 em46
        refine lv_aload_n hx hb dX6_come_98 rfl (lv_at hl 3 rfl) ?_
        refine zw_get (C := RX6) (T := TX6) (N := 24) hx hb hts hin6 hown hE.1 hW mC_M rfl 3 (by decide) (hts (.fieldLink RX6 19 "UnionListModel" "hands" "[I") (by decide +kernel)) (fun _ h9 => h9) rfl dX6_come_99 ?_
        refine lv_iload_n hx hb dX6_come_102 rfl (lv_at hl 2 rfl) ?_
        refine lv_iload_n hx hb dX6_come_103 rfl (lv_at hl 1 rfl) ?_
        obtain ⟨hb_47, h⟩ := h
        refine zw_iast hx hb hE.1 hW mC_3 hb_47 dX6_come_104 mP_3 (fun H locs hW => ?_)
        obtain ⟨m48, em48⟩ : ∃ y, y = mset m46 3 (m0 11 p1.toNatClampNeg).toNatClampNeg (m0 8 p1.toNatClampNeg) := ⟨_, rfl⟩
        rw [← em48] at hW
        replace h := h m48 em48
        refine lv_aload_n hx hb dX6_come_105 rfl (lv_at hl 3 rfl) ?_
        refine zw_get (C := RX6) (T := TX6) (N := 24) hx hb hts hin6 hown hE.1 hW mC_M rfl 10 (by decide) (hts (.fieldLink RX6 37 "UnionListModel" "stage" "[I") (by decide +kernel)) (fun _ h9 => h9) rfl dX6_come_106 ?_
        refine lv_iload_n hx hb dX6_come_109 rfl (lv_at hl 4 rfl) ?_
        refine lv_iconst (v := 2) hx hb dX6_come_110 (by decide) ?_
        obtain ⟨hb_49, h⟩ := h
        refine zw_iast hx hb hE.1 hW mC_10 hb_49 dX6_come_111 mP_10 (fun H locs hW => ?_)
        obtain ⟨m50, em50⟩ : ∃ y, y = mset m48 10 p1.toNatClampNeg 2 := ⟨_, rfl⟩
        rw [← em50] at hW
        replace h := h m50 em50
        refine lv_aload_n hx hb dX6_come_112 rfl (lv_at hl 3 rfl) ?_
        refine zw_get (C := RX6) (T := TX6) (N := 24) hx hb hts hin6 hown hE.1 hW mC_M rfl 12 (by decide) (hts (.fieldLink RX6 43 "UnionListModel" "until" "[I") (by decide +kernel)) (fun _ h9 => h9) rfl dX6_come_113 ?_
        refine lv_iload_n hx hb dX6_come_116 rfl (lv_at hl 4 rfl) ?_
        refine lv_aload_n hx hb dX6_come_117 rfl (lv_at hl 3 rfl) ?_
        refine zw_get (C := RX6) (T := TX6) (N := 24) hx hb hts hin6 hown hE.1 hW mC_M rfl 22 (by decide) (hts (.fieldLink RX6 84 "UnionListModel" "now" "I") (by decide +kernel)) (fun _ h9 => h9) rfl dX6_come_118 ?_
        refine lv_bipush (v := 20) hx hb dX6_come_121 (by decide) ?_
        refine lv_iadd hx hb dX6_come_123 ?_
        obtain ⟨hb_51, h⟩ := h
        refine zw_iast hx hb hE.1 hW mC_12 hb_51 dX6_come_124 mP_12 (fun H locs hW => ?_)
        obtain ⟨m52, em52⟩ : ∃ y, y = mset m50 12 p1.toNatClampNeg ((m50 22 0) + 20) := ⟨_, rfl⟩
        rw [← em52] at hW
        replace h := h m52 em52
        refine W.widen (k := 0) (n := 8 * (0)) (by omega) (by omega) ?_
        exact (z_vret hx hb hr hlocks hW h dX6_come_125)
      · replace h := h.2 c_38
        refine lv_iconst (v := 1) hx hb dX6_come_43 (by decide) ?_
        refine lv_goto (tgt := 48) hx hb dX6_come_44 (by decide) ?_
        refine lv_istore (lv' := [(4, .int 1), (3, .int (m0 8 p1.toNatClampNeg)), (2, .int (m0 11 p1.toNatClampNeg)), (0, .ref (S0 + 9)), (1, .int p1)]) hx hb dX6_come_48 hl (by decide) rfl (fun ls hl => ?_)
        refine lv_aload_n hx hb dX6_come_50 rfl (lv_at hl 3 rfl) ?_
        refine zw_get (C := RX6) (T := TX6) (N := 24) hx hb hts hin6 hown hE.1 hW mC_M rfl 21 (by decide) (hts (.fieldLink RX6 64 "UnionListModel" "spared" "[I") (by decide +kernel)) (fun _ h9 => h9) rfl dX6_come_51 ?_
        refine lv_iload_n hx hb dX6_come_54 rfl (lv_at hl 1 rfl) ?_
        refine lv_dup2_11 hx hb dX6_come_55 rfl rfl ?_
        obtain ⟨hb_53, h⟩ := h
        refine zw_iald hx hb hE.1 hW mC_21 hb_53 dX6_come_56 ?_
        refine lv_iload hx hb dX6_come_57 (lv_at hl 0 rfl) ?_
        refine lv_if_eq (tgt := 66) hx hb dX6_come_59 (by decide) (fun h9 => absurd h9 (by decide)) (fun _ => ?_)
        refine lv_iconst (v := 1) hx hb dX6_come_62 (by decide) ?_
        refine lv_goto (tgt := 67) hx hb dX6_come_63 (by decide) ?_
        refine lv_iadd hx hb dX6_come_67 ?_
        obtain ⟨hb_54, h⟩ := h
        refine zw_iast hx hb hE.1 hW mC_21 hb_54 dX6_come_68 mP_21 (fun H locs hW => ?_)
        obtain ⟨m55, em55⟩ : ∃ y, y = mset m21 21 (m0 8 p1.toNatClampNeg).toNatClampNeg ((m21 21 (m0 8 p1.toNatClampNeg).toNatClampNeg) + 1) := ⟨_, rfl⟩
        rw [← em55] at hW
        replace h := h m55 em55
        refine lv_aload_n hx hb dX6_come_69 rfl (lv_at hl 3 rfl) ?_
        refine lv_iload_n hx hb dX6_come_70 rfl (lv_at hl 1 rfl) ?_
        refine lv_aload_n hx hb dX6_come_71 rfl (lv_at hl 3 rfl) ?_
        refine zw_get (C := RX6) (T := TX6) (N := 24) hx hb hts hin6 hown hE.1 hW mC_M rfl 0 (by decide) (hts (.fieldLink RX6 7 "UnionListModel" "home" "[I") (by decide +kernel)) (fun _ h9 => h9) rfl dX6_come_72 ?_
        refine lv_iload_n hx hb dX6_come_75 rfl (lv_at hl 2 rfl) ?_
        obtain ⟨hb_56, h⟩ := h
        refine zw_iald hx hb hE.1 hW mC_0 hb_56 dX6_come_76 ?_
        refine lv_iload hx hb dX6_come_77 (lv_at hl 0 rfl) ?_
        refine lv_if_eq (tgt := 86) hx hb dX6_come_79 (by decide) (fun h9 => absurd h9 (by decide)) (fun _ => ?_)
        refine lv_iconst (v := 0) hx hb dX6_come_82 (by decide) ?_
        refine lv_goto (tgt := 88) hx hb dX6_come_83 (by decide) ?_
        refine zc_v (va_runV (As := [.int (m0 8 p1.toNatClampNeg), .int (m55 0 (m0 11 p1.toNatClampNeg).toNatClampNeg), .int 0]) (rest := []) ⟨hx, hb, hml, hown, hts⟩ (cX6_owe_ok l hlt D S0 g m55 (m0 8 p1.toNatClampNeg) (m55 0 (m0 11 p1.toNatClampNeg).toNatClampNeg) 0 _ h) (cwV 3 hts gX6_come_X6_owe rfl rfl rfl (by decide +kernel) ⟨Nat.le_of_ble_eq_true rfl, Nat.le_of_ble_eq_true rfl⟩) (zpreV (q := (RX6, TX6, 24)) hE hs hW mC_M rfl) rfl rfl hl.1 rfl (lv_room (Nat.le_of_ble_eq_true rfl)) dX6_come_88 ⟨by show _ ≤ 0; omega, by show _ ≤ 8 * (0); omega⟩) hW (fun m58 H locs h hW => ?_)
        refine W.widen (k := 0) (n := 8 * (0)) (by omega) (by omega) ?_
        refine lv_aload_n hx hb dX6_come_91 rfl (lv_at hl 3 rfl) ?_
        refine zw_get (C := RX6) (T := TX6) (N := 24) hx hb hts hin6 hown hE.1 hW mC_M rfl 2 (by decide) (hts (.fieldLink RX6 16 "UnionListModel" "place" "[I") (by decide +kernel)) (fun _ h9 => h9) rfl dX6_come_92 ?_
        refine lv_iload_n hx hb dX6_come_95 rfl (lv_at hl 2 rfl) ?_
        refine lv_iload_n hx hb dX6_come_96 rfl (lv_at hl 1 rfl) ?_
        obtain ⟨hb_59, h⟩ := h
        refine zw_iast hx hb hE.1 hW mC_2 hb_59 dX6_come_97 mP_2 (fun H locs hW => ?_)
        obtain ⟨m60, em60⟩ : ∃ y, y = mset m58 2 (m0 11 p1.toNatClampNeg).toNatClampNeg (m0 8 p1.toNatClampNeg) := ⟨_, rfl⟩
        rw [← em60] at hW
        replace h := h m60 em60
        refine lv_aload_n hx hb dX6_come_98 rfl (lv_at hl 3 rfl) ?_
        refine zw_get (C := RX6) (T := TX6) (N := 24) hx hb hts hin6 hown hE.1 hW mC_M rfl 3 (by decide) (hts (.fieldLink RX6 19 "UnionListModel" "hands" "[I") (by decide +kernel)) (fun _ h9 => h9) rfl dX6_come_99 ?_
        refine lv_iload_n hx hb dX6_come_102 rfl (lv_at hl 2 rfl) ?_
        refine lv_iload_n hx hb dX6_come_103 rfl (lv_at hl 1 rfl) ?_
        obtain ⟨hb_61, h⟩ := h
        refine zw_iast hx hb hE.1 hW mC_3 hb_61 dX6_come_104 mP_3 (fun H locs hW => ?_)
        obtain ⟨m62, em62⟩ : ∃ y, y = mset m60 3 (m0 11 p1.toNatClampNeg).toNatClampNeg (m0 8 p1.toNatClampNeg) := ⟨_, rfl⟩
        rw [← em62] at hW
        replace h := h m62 em62
        refine lv_aload_n hx hb dX6_come_105 rfl (lv_at hl 3 rfl) ?_
        refine zw_get (C := RX6) (T := TX6) (N := 24) hx hb hts hin6 hown hE.1 hW mC_M rfl 10 (by decide) (hts (.fieldLink RX6 37 "UnionListModel" "stage" "[I") (by decide +kernel)) (fun _ h9 => h9) rfl dX6_come_106 ?_
        refine lv_iload_n hx hb dX6_come_109 rfl (lv_at hl 4 rfl) ?_
        refine lv_iconst (v := 2) hx hb dX6_come_110 (by decide) ?_
        obtain ⟨hb_63, h⟩ := h
        refine zw_iast hx hb hE.1 hW mC_10 hb_63 dX6_come_111 mP_10 (fun H locs hW => ?_)
        obtain ⟨m64, em64⟩ : ∃ y, y = mset m62 10 p1.toNatClampNeg 2 := ⟨_, rfl⟩
        rw [← em64] at hW
        replace h := h m64 em64
        refine lv_aload_n hx hb dX6_come_112 rfl (lv_at hl 3 rfl) ?_
        refine zw_get (C := RX6) (T := TX6) (N := 24) hx hb hts hin6 hown hE.1 hW mC_M rfl 12 (by decide) (hts (.fieldLink RX6 43 "UnionListModel" "until" "[I") (by decide +kernel)) (fun _ h9 => h9) rfl dX6_come_113 ?_
        refine lv_iload_n hx hb dX6_come_116 rfl (lv_at hl 4 rfl) ?_
        refine lv_aload_n hx hb dX6_come_117 rfl (lv_at hl 3 rfl) ?_
        refine zw_get (C := RX6) (T := TX6) (N := 24) hx hb hts hin6 hown hE.1 hW mC_M rfl 22 (by decide) (hts (.fieldLink RX6 84 "UnionListModel" "now" "I") (by decide +kernel)) (fun _ h9 => h9) rfl dX6_come_118 ?_
        refine lv_bipush (v := 20) hx hb dX6_come_121 (by decide) ?_
        refine lv_iadd hx hb dX6_come_123 ?_
        obtain ⟨hb_65, h⟩ := h
        refine zw_iast hx hb hE.1 hW mC_12 hb_65 dX6_come_124 mP_12 (fun H locs hW => ?_)
        obtain ⟨m66, em66⟩ : ∃ y, y = mset m64 12 p1.toNatClampNeg ((m64 22 0) + 20) := ⟨_, rfl⟩
        rw [← em66] at hW
        replace h := h m66 em66
        refine W.widen (k := 0) (n := 8 * (0)) (by omega) (by omega) ?_
        exact (z_vret hx hb hr hlocks hW h dX6_come_125)

def wX6_arrive (m0 : mS) (p1 : Int32) (p2 : Int32) (Q : mS → Prop) : Prop := ((2 ≤ p1 → ((p1 = 2 → (wX6_answer m0 p2 (fun m31 => Q m31))) ∧ (¬ p1 = 2 → ((p1 = 3 → (vp_in p2 40 ∧ (vp_in p2 40 ∧ (((m0 10 p2.toNatClampNeg) = 2 → (vp_in p2 40 ∧ (((m0 14 p2.toNatClampNeg) = 0 → (vp_in p2 40 ∧ (∀ m29 : mS, m29 = mset m0 12 p2.toNatClampNeg ((m0 12 p2.toNatClampNeg) + 20) → Q m29))) ∧ (¬ (m0 14 p2.toNatClampNeg) = 0 → (vp_in p2 40 ∧ (∀ m27 : mS, m27 = mset m0 12 p2.toNatClampNeg ((m0 12 p2.toNatClampNeg) + 0) → Q m27)))))) ∧ (¬ (m0 10 p2.toNatClampNeg) = 2 → (vp_in p2 40 ∧ (∀ m23 : mS, m23 = mset m0 12 p2.toNatClampNeg ((m0 12 p2.toNatClampNeg) + 0) → Q m23))))))) ∧ (¬ p1 = 3 → ((p1 = 4 → (vp_in p2 40 ∧ (((m0 10 p2.toNatClampNeg) = 2 → (vp_in p2 40 ∧ (((m0 12 p2.toNatClampNeg) ≤ ((m0 22 0) + 5) → (vp_in p2 40 ∧ (vp_in p2 40 ∧ (∀ m16 : mS, m16 = mset m0 12 p2.toNatClampNeg (m0 12 p2.toNatClampNeg) → Q m16)))) ∧ (¬ (m0 12 p2.toNatClampNeg) ≤ ((m0 22 0) + 5) → (vp_in p2 40 ∧ (∀ m18 : mS, m18 = mset m0 12 p2.toNatClampNeg ((m0 22 0) + 5) → Q m18)))))) ∧ (¬ (m0 10 p2.toNatClampNeg) = 2 → (vp_in p2 40 ∧ (vp_in p2 40 ∧ (∀ m11 : mS, m11 = mset m0 12 p2.toNatClampNeg (m0 12 p2.toNatClampNeg) → Q m11))))))) ∧ (¬ p1 = 4 → (wX6_come m0 p2 (fun m6 => Q m6))))))))) ∧ (¬ 2 ≤ p1 → (vp_in p2 20 ∧ (∀ m33 : mS, m33 = mset m0 4 p2.toNatClampNeg p1 → Q m33))))
theorem hin_X6_arrive_6 : ∀ w ∈ u_ws RX6 TX6 24, w ∈ wsX6_arrive := by decide +kernel
set_option maxHeartbeats 8000000 in
set_option maxRecDepth 100000 in
theorem cX6_arrive_ok (l : Launch) (hlt : l.stackTraces = false) (D : zD) (S0 : Nat) (g : zF) (m0 : mS) (p1 : Int32) (p2 : Int32)  (Q : mS → Prop) (h : wX6_arrive m0 p1 p2 Q) : Met l yX6_arrive wsX6_arrive { frames := 3, cells := 0, slots := 8 * (0), locals := 69 } (zPc D S0 (mR D S0 g m0) [.ref (S0 + 9), .int p1, .int p2]) (va_Qv Q (zB D S0 (fun u => mR D S0 g u)) (zA S0)) (0) (8 * (0)) (zA S0) := by
  refine zMet (cc := cX6_arrive) (maxL := 3) (ret := none) (by decide) rfl (Nat.le_of_ble_eq_true rfl) (fun p e s m args below meth c ls hx hb hr hml hown hts hlocks hnm hs hE hW hl => ?_)
  have hin6 := hin_X6_arrive_6
  replace hl : lv_has ls 3 [(0, .ref (S0 + 9)), (1, .int p1), (2, .int p2)] := hl
  unfold wX6_arrive at h
  refine lv_iload_n hx hb dX6_arrive_0 rfl (lv_at hl 1 rfl) ?_
  refine lv_iconst (v := 2) hx hb dX6_arrive_1 (by decide) ?_
  refine lv_icmp_ge (tgt := 15) hx hb dX6_arrive_2 (by decide) (fun c_1 => ?_) (fun c_1 => ?_)
  · replace h := h.1 c_1
    refine lv_iload_n hx hb dX6_arrive_15 rfl (lv_at hl 1 rfl) ?_
    refine lv_iconst (v := 2) hx hb dX6_arrive_16 (by decide) ?_
    refine lv_icmp_ne (tgt := 28) hx hb dX6_arrive_17 (by decide) (fun c_2 => ?_) (fun c_2 => ?_)
    · replace h := h.2 c_2
      refine lv_iload_n hx hb dX6_arrive_28 rfl (lv_at hl 1 rfl) ?_
      refine lv_iconst (v := 3) hx hb dX6_arrive_29 (by decide) ?_
      refine lv_icmp_ne (tgt := 70) hx hb dX6_arrive_30 (by decide) (fun c_3 => ?_) (fun c_3 => ?_)
      · replace h := h.2 c_3
        refine lv_iload_n hx hb dX6_arrive_70 rfl (lv_at hl 1 rfl) ?_
        refine lv_iconst (v := 4) hx hb dX6_arrive_71 (by decide) ?_
        refine lv_icmp_ne (tgt := 124) hx hb dX6_arrive_72 (by decide) (fun c_4 => ?_) (fun c_4 => ?_)
        · replace h := h.2 c_4
          refine lv_aload_n hx hb dX6_arrive_124 rfl (lv_at hl 0 rfl) ?_
          refine lv_iload_n hx hb dX6_arrive_125 rfl (lv_at hl 2 rfl) ?_
          refine zc_v (va_runV (As := [.int p2]) (rest := []) ⟨hx, hb, hml, hown, hts⟩ (cX6_come_ok l hlt D S0 g m0 p2 _ h) (cwV 1 hts gX6_arrive_X6_come rfl rfl rfl (by decide +kernel) ⟨Nat.le_of_ble_eq_true rfl, Nat.le_of_ble_eq_true rfl⟩) (zpreV (q := (RX6, TX6, 24)) hE hs hW mC_M rfl) rfl rfl hl.1 rfl (lv_room (Nat.le_of_ble_eq_true rfl)) dX6_arrive_126 ⟨by show _ ≤ 0; omega, by show _ ≤ 8 * (0); omega⟩) hW (fun m6 H locs h hW => ?_)
          refine W.widen (k := 0) (n := 8 * (0)) (by omega) (by omega) ?_
          refine W.widen (k := 0) (n := 8 * (0)) (by omega) (by omega) ?_
          exact (z_vret hx hb hr hlocks hW h dX6_arrive_129)
        · replace h := h.1 c_4
          refine lv_aload_n hx hb dX6_arrive_75 rfl (lv_at hl 0 rfl) ?_
          refine zw_get (C := RX6) (T := TX6) (N := 24) hx hb hts hin6 hown hE.1 hW mC_M rfl 12 (by decide) (hts (.fieldLink RX6 43 "UnionListModel" "until" "[I") (by decide +kernel)) (fun _ h9 => h9) rfl dX6_arrive_76 ?_
          refine lv_iload_n hx hb dX6_arrive_79 rfl (lv_at hl 2 rfl) ?_
          refine lv_aload_n hx hb dX6_arrive_80 rfl (lv_at hl 0 rfl) ?_
          refine zw_get (C := RX6) (T := TX6) (N := 24) hx hb hts hin6 hown hE.1 hW mC_M rfl 10 (by decide) (hts (.fieldLink RX6 37 "UnionListModel" "stage" "[I") (by decide +kernel)) (fun _ h9 => h9) rfl dX6_arrive_81 ?_
          refine lv_iload_n hx hb dX6_arrive_84 rfl (lv_at hl 2 rfl) ?_
          obtain ⟨hb_7, h⟩ := h
          refine zw_iald hx hb hE.1 hW mC_10 hb_7 dX6_arrive_85 ?_
          refine lv_iconst (v := 2) hx hb dX6_arrive_86 (by decide) ?_
          refine lv_icmp_ne (tgt := 114) hx hb dX6_arrive_87 (by decide) (fun c_8 => ?_) (fun c_8 => ?_)
          · replace h := h.2 c_8
            refine lv_aload_n hx hb dX6_arrive_114 rfl (lv_at hl 0 rfl) ?_
            refine zw_get (C := RX6) (T := TX6) (N := 24) hx hb hts hin6 hown hE.1 hW mC_M rfl 12 (by decide) (hts (.fieldLink RX6 43 "UnionListModel" "until" "[I") (by decide +kernel)) (fun _ h9 => h9) rfl dX6_arrive_115 ?_
            refine lv_iload_n hx hb dX6_arrive_118 rfl (lv_at hl 2 rfl) ?_
            obtain ⟨hb_9, h⟩ := h
            refine zw_iald hx hb hE.1 hW mC_12 hb_9 dX6_arrive_119 ?_
            obtain ⟨hb_10, h⟩ := h
            refine zw_iast hx hb hE.1 hW mC_12 hb_10 dX6_arrive_120 mP_12 (fun H locs hW => ?_)
            obtain ⟨m11, em11⟩ : ∃ y, y = mset m0 12 p2.toNatClampNeg (m0 12 p2.toNatClampNeg) := ⟨_, rfl⟩
            rw [← em11] at hW
            replace h := h m11 em11
            refine lv_goto (tgt := 129) hx hb dX6_arrive_121 (by decide) ?_
            refine W.widen (k := 0) (n := 8 * (0)) (by omega) (by omega) ?_
            exact (z_vret hx hb hr hlocks hW h dX6_arrive_129)
          · replace h := h.1 c_8
            refine lv_aload_n hx hb dX6_arrive_90 rfl (lv_at hl 0 rfl) ?_
            refine zw_get (C := RX6) (T := TX6) (N := 24) hx hb hts hin6 hown hE.1 hW mC_M rfl 12 (by decide) (hts (.fieldLink RX6 43 "UnionListModel" "until" "[I") (by decide +kernel)) (fun _ h9 => h9) rfl dX6_arrive_91 ?_
            refine lv_iload_n hx hb dX6_arrive_94 rfl (lv_at hl 2 rfl) ?_
            obtain ⟨hb_12, h⟩ := h
            refine zw_iald hx hb hE.1 hW mC_12 hb_12 dX6_arrive_95 ?_
            refine lv_aload_n hx hb dX6_arrive_96 rfl (lv_at hl 0 rfl) ?_
            refine zw_get (C := RX6) (T := TX6) (N := 24) hx hb hts hin6 hown hE.1 hW mC_M rfl 22 (by decide) (hts (.fieldLink RX6 84 "UnionListModel" "now" "I") (by decide +kernel)) (fun _ h9 => h9) rfl dX6_arrive_97 ?_
            refine lv_iconst (v := 5) hx hb dX6_arrive_100 (by decide) ?_
            refine lv_iadd hx hb dX6_arrive_101 ?_
            refine lv_icmp_le (tgt := 114) hx hb dX6_arrive_102 (by decide) (fun c_13 => ?_) (fun c_13 => ?_)
            · replace h := h.1 c_13
              refine lv_aload_n hx hb dX6_arrive_114 rfl (lv_at hl 0 rfl) ?_
              refine zw_get (C := RX6) (T := TX6) (N := 24) hx hb hts hin6 hown hE.1 hW mC_M rfl 12 (by decide) (hts (.fieldLink RX6 43 "UnionListModel" "until" "[I") (by decide +kernel)) (fun _ h9 => h9) rfl dX6_arrive_115 ?_
              refine lv_iload_n hx hb dX6_arrive_118 rfl (lv_at hl 2 rfl) ?_
              obtain ⟨hb_14, h⟩ := h
              refine zw_iald hx hb hE.1 hW mC_12 hb_14 dX6_arrive_119 ?_
              obtain ⟨hb_15, h⟩ := h
              refine zw_iast hx hb hE.1 hW mC_12 hb_15 dX6_arrive_120 mP_12 (fun H locs hW => ?_)
              obtain ⟨m16, em16⟩ : ∃ y, y = mset m0 12 p2.toNatClampNeg (m0 12 p2.toNatClampNeg) := ⟨_, rfl⟩
              rw [← em16] at hW
              replace h := h m16 em16
              refine lv_goto (tgt := 129) hx hb dX6_arrive_121 (by decide) ?_
              refine W.widen (k := 0) (n := 8 * (0)) (by omega) (by omega) ?_
              exact (z_vret hx hb hr hlocks hW h dX6_arrive_129)
            · replace h := h.2 c_13
              refine lv_aload_n hx hb dX6_arrive_105 rfl (lv_at hl 0 rfl) ?_
              refine zw_get (C := RX6) (T := TX6) (N := 24) hx hb hts hin6 hown hE.1 hW mC_M rfl 22 (by decide) (hts (.fieldLink RX6 84 "UnionListModel" "now" "I") (by decide +kernel)) (fun _ h9 => h9) rfl dX6_arrive_106 ?_
              refine lv_iconst (v := 5) hx hb dX6_arrive_109 (by decide) ?_
              refine lv_iadd hx hb dX6_arrive_110 ?_
              refine lv_goto (tgt := 120) hx hb dX6_arrive_111 (by decide) ?_
              obtain ⟨hb_17, h⟩ := h
              refine zw_iast hx hb hE.1 hW mC_12 hb_17 dX6_arrive_120 mP_12 (fun H locs hW => ?_)
              obtain ⟨m18, em18⟩ : ∃ y, y = mset m0 12 p2.toNatClampNeg ((m0 22 0) + 5) := ⟨_, rfl⟩
              rw [← em18] at hW
              replace h := h m18 em18
              refine lv_goto (tgt := 129) hx hb dX6_arrive_121 (by decide) ?_
              refine W.widen (k := 0) (n := 8 * (0)) (by omega) (by omega) ?_
              exact (z_vret hx hb hr hlocks hW h dX6_arrive_129)
      · replace h := h.1 c_3
        refine lv_aload_n hx hb dX6_arrive_33 rfl (lv_at hl 0 rfl) ?_
        refine zw_get (C := RX6) (T := TX6) (N := 24) hx hb hts hin6 hown hE.1 hW mC_M rfl 12 (by decide) (hts (.fieldLink RX6 43 "UnionListModel" "until" "[I") (by decide +kernel)) (fun _ h9 => h9) rfl dX6_arrive_34 ?_
        refine lv_iload_n hx hb dX6_arrive_37 rfl (lv_at hl 2 rfl) ?_
        refine lv_dup2_11 hx hb dX6_arrive_38 rfl rfl ?_
        obtain ⟨hb_19, h⟩ := h
        refine zw_iald hx hb hE.1 hW mC_12 hb_19 dX6_arrive_39 ?_
        refine lv_aload_n hx hb dX6_arrive_40 rfl (lv_at hl 0 rfl) ?_
        refine zw_get (C := RX6) (T := TX6) (N := 24) hx hb hts hin6 hown hE.1 hW mC_M rfl 10 (by decide) (hts (.fieldLink RX6 37 "UnionListModel" "stage" "[I") (by decide +kernel)) (fun _ h9 => h9) rfl dX6_arrive_41 ?_
        refine lv_iload_n hx hb dX6_arrive_44 rfl (lv_at hl 2 rfl) ?_
        obtain ⟨hb_20, h⟩ := h
        refine zw_iald hx hb hE.1 hW mC_10 hb_20 dX6_arrive_45 ?_
        refine lv_iconst (v := 2) hx hb dX6_arrive_46 (by decide) ?_
        refine lv_icmp_ne (tgt := 64) hx hb dX6_arrive_47 (by decide) (fun c_21 => ?_) (fun c_21 => ?_)
        · replace h := h.2 c_21
          refine lv_iconst (v := 0) hx hb dX6_arrive_64 (by decide) ?_
          refine lv_iadd hx hb dX6_arrive_65 ?_
          obtain ⟨hb_22, h⟩ := h
          refine zw_iast hx hb hE.1 hW mC_12 hb_22 dX6_arrive_66 mP_12 (fun H locs hW => ?_)
          obtain ⟨m23, em23⟩ : ∃ y, y = mset m0 12 p2.toNatClampNeg ((m0 12 p2.toNatClampNeg) + 0) := ⟨_, rfl⟩
          rw [← em23] at hW
          replace h := h m23 em23
          refine lv_goto (tgt := 129) hx hb dX6_arrive_67 (by decide) ?_
          refine W.widen (k := 0) (n := 8 * (0)) (by omega) (by omega) ?_
          exact (z_vret hx hb hr hlocks hW h dX6_arrive_129)
        · replace h := h.1 c_21
          refine lv_aload_n hx hb dX6_arrive_50 rfl (lv_at hl 0 rfl) ?_
          refine zw_get (C := RX6) (T := TX6) (N := 24) hx hb hts hin6 hown hE.1 hW mC_M rfl 14 (by decide) (hts (.fieldLink RX6 49 "UnionListModel" "called" "[I") (by decide +kernel)) (fun _ h9 => h9) rfl dX6_arrive_51 ?_
          refine lv_iload_n hx hb dX6_arrive_54 rfl (lv_at hl 2 rfl) ?_
          obtain ⟨hb_24, h⟩ := h
          refine zw_iald hx hb hE.1 hW mC_14 hb_24 dX6_arrive_55 ?_
          refine lv_if_ne (tgt := 64) hx hb dX6_arrive_56 (by decide) (fun c_25 => ?_) (fun c_25 => ?_)
          · replace h := h.2 c_25
            refine lv_iconst (v := 0) hx hb dX6_arrive_64 (by decide) ?_
            refine lv_iadd hx hb dX6_arrive_65 ?_
            obtain ⟨hb_26, h⟩ := h
            refine zw_iast hx hb hE.1 hW mC_12 hb_26 dX6_arrive_66 mP_12 (fun H locs hW => ?_)
            obtain ⟨m27, em27⟩ : ∃ y, y = mset m0 12 p2.toNatClampNeg ((m0 12 p2.toNatClampNeg) + 0) := ⟨_, rfl⟩
            rw [← em27] at hW
            replace h := h m27 em27
            refine lv_goto (tgt := 129) hx hb dX6_arrive_67 (by decide) ?_
            refine W.widen (k := 0) (n := 8 * (0)) (by omega) (by omega) ?_
            exact (z_vret hx hb hr hlocks hW h dX6_arrive_129)
          · replace h := h.1 c_25
            refine lv_bipush (v := 20) hx hb dX6_arrive_59 (by decide) ?_
            refine lv_goto (tgt := 65) hx hb dX6_arrive_61 (by decide) ?_
            refine lv_iadd hx hb dX6_arrive_65 ?_
            obtain ⟨hb_28, h⟩ := h
            refine zw_iast hx hb hE.1 hW mC_12 hb_28 dX6_arrive_66 mP_12 (fun H locs hW => ?_)
            obtain ⟨m29, em29⟩ : ∃ y, y = mset m0 12 p2.toNatClampNeg ((m0 12 p2.toNatClampNeg) + 20) := ⟨_, rfl⟩
            rw [← em29] at hW
            replace h := h m29 em29
            refine lv_goto (tgt := 129) hx hb dX6_arrive_67 (by decide) ?_
            refine W.widen (k := 0) (n := 8 * (0)) (by omega) (by omega) ?_
            exact (z_vret hx hb hr hlocks hW h dX6_arrive_129)
    · replace h := h.1 c_2
      refine lv_aload_n hx hb dX6_arrive_20 rfl (lv_at hl 0 rfl) ?_
      refine lv_iload_n hx hb dX6_arrive_21 rfl (lv_at hl 2 rfl) ?_
      refine zc_v (va_runV (As := [.int p2]) (rest := []) ⟨hx, hb, hml, hown, hts⟩ (cX6_answer_ok l hlt D S0 g m0 p2 _ h) (cwV 1 hts gX6_arrive_X6_answer rfl rfl rfl (by decide +kernel) ⟨Nat.le_of_ble_eq_true rfl, Nat.le_of_ble_eq_true rfl⟩) (zpreV (q := (RX6, TX6, 24)) hE hs hW mC_M rfl) rfl rfl hl.1 rfl (lv_room (Nat.le_of_ble_eq_true rfl)) dX6_arrive_22 ⟨by show _ ≤ 0; omega, by show _ ≤ 8 * (0); omega⟩) hW (fun m31 H locs h hW => ?_)
      refine W.widen (k := 0) (n := 8 * (0)) (by omega) (by omega) ?_
      refine lv_goto (tgt := 129) hx hb dX6_arrive_25 (by decide) ?_
      refine W.widen (k := 0) (n := 8 * (0)) (by omega) (by omega) ?_
      exact (z_vret hx hb hr hlocks hW h dX6_arrive_129)
  · replace h := h.2 c_1
    refine lv_aload_n hx hb dX6_arrive_5 rfl (lv_at hl 0 rfl) ?_
    refine zw_get (C := RX6) (T := TX6) (N := 24) hx hb hts hin6 hown hE.1 hW mC_M rfl 4 (by decide) (hts (.fieldLink RX6 22 "UnionListModel" "knows" "[I") (by decide +kernel)) (fun _ h9 => h9) rfl dX6_arrive_6 ?_
    refine lv_iload_n hx hb dX6_arrive_9 rfl (lv_at hl 2 rfl) ?_
    refine lv_iload_n hx hb dX6_arrive_10 rfl (lv_at hl 1 rfl) ?_
    obtain ⟨hb_32, h⟩ := h
    refine zw_iast hx hb hE.1 hW mC_4 hb_32 dX6_arrive_11 mP_4 (fun H locs hW => ?_)
    obtain ⟨m33, em33⟩ : ∃ y, y = mset m0 4 p2.toNatClampNeg p1 := ⟨_, rfl⟩
    rw [← em33] at hW
    replace h := h m33 em33
    refine lv_goto (tgt := 129) hx hb dX6_arrive_12 (by decide) ?_
    refine W.widen (k := 0) (n := 8 * (0)) (by omega) (by omega) ?_
    exact (z_vret hx hb hr hlocks hW h dX6_arrive_129)
