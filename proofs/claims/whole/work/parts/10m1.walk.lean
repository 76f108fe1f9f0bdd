def wX6_thrown (m0 : mS) (Q : Int32 → mS → Prop) : Prop := Q (m0 23 0) m0
theorem hin_X6_thrown_6 : ∀ w ∈ u_ws RX6 TX6 24, w ∈ wsX6_thrown := by decide +kernel
set_option maxHeartbeats 8000000 in
set_option maxRecDepth 100000 in
theorem cX6_thrown_ok (l : Launch) (hlt : l.stackTraces = false) (D : zD) (S0 : Nat) (g : zF) (m0 : mS)   (Q : Int32 → mS → Prop) (h : wX6_thrown m0 Q) : Met l yX6_thrown wsX6_thrown { frames := 0, cells := 0, slots := 8 * (0), locals := 0 } (zPc D S0 (mR D S0 g m0) [.ref (S0 + 9)]) (va_Qi Q (zB D S0 (fun u => mR D S0 g u)) (zA S0)) (0) (8 * (0)) (zA S0) := by
  refine zMet (cc := cX6_thrown) (maxL := 1) (ret := (some .int)) (by decide) rfl (Nat.le_of_ble_eq_true rfl) (fun p e s m args below meth c ls hx hb hr hml hown hts hlocks hnm hs hE hW hl => ?_)
  have hin6 := hin_X6_thrown_6
  replace hl : lv_has ls 1 [(0, .ref (S0 + 9))] := hl
  unfold wX6_thrown at h
  refine lv_aload_n hx hb dX6_thrown_0 rfl (lv_at hl 0 rfl) ?_
  refine zw_get (C := RX6) (T := TX6) (N := 24) hx hb hts hin6 hown hE.1 hW mC_M rfl 23 (by decide) (hts (.fieldLink RX6 67 "UnionListModel" "thrown" "I") (by decide +kernel)) (fun _ h9 => h9) rfl dX6_thrown_1 ?_
  refine W.widen (k := 0) (n := 8 * (0)) (by omega) (by omega) ?_
  exact (z_iret hx hb hr hlocks hW h dX6_thrown_4)

def wX6_holds (m0 : mS) (p1 : Int32) (Q : Int32 → mS → Prop) : Prop := (∀ m1 : mS, m1 = mset m0 23 0 p1 → ((p1 ≤ 0 → Q 0 m1) ∧ (¬ p1 ≤ 0 → Q 1 m1)))
theorem hin_X6_holds_6 : ∀ w ∈ u_ws RX6 TX6 24, w ∈ wsX6_holds := by decide +kernel
set_option maxHeartbeats 8000000 in
set_option maxRecDepth 100000 in
theorem cX6_holds_ok (l : Launch) (hlt : l.stackTraces = false) (D : zD) (S0 : Nat) (g : zF) (m0 : mS) (p1 : Int32)  (Q : Int32 → mS → Prop) (h : wX6_holds m0 p1 Q) : Met l yX6_holds wsX6_holds { frames := 0, cells := 0, slots := 8 * (0), locals := 0 } (zPc D S0 (mR D S0 g m0) [.ref (S0 + 9), .int p1]) (va_Qi (fun r u => Q r u ∧ (r = 0 ∨ r = 1)) (zB D S0 (fun u => mR D S0 g u)) (zA S0)) (0) (8 * (0)) (zA S0) := by
  refine zMet (cc := cX6_holds) (maxL := 2) (ret := (some .boolean)) (by decide) rfl (Nat.le_of_ble_eq_true rfl) (fun p e s m args below meth c ls hx hb hr hml hown hts hlocks hnm hs hE hW hl => ?_)
  have hin6 := hin_X6_holds_6
  replace hl : lv_has ls 2 [(0, .ref (S0 + 9)), (1, .int p1)] := hl
  unfold wX6_holds at h
  refine lv_aload_n hx hb dX6_holds_0 rfl (lv_at hl 0 rfl) ?_
  refine lv_iload_n hx hb dX6_holds_1 rfl (lv_at hl 1 rfl) ?_
  refine zw_put (C := RX6) (T := TX6) (N := 24) hx hb hts hin6 tyX6 tyX6_ok nmX6 hown hE.1 hW mC_M rfl 23 (by decide) (hts (.fieldLink RX6 67 "UnionListModel" "thrown" "I") (by decide +kernel)) (fun _ h9 => h9) rfl rfl rfl (Nat.le_of_ble_eq_true rfl) dX6_holds_2 mP_23 (fun H locs hW => ?_)
  obtain ⟨m1, em1⟩ : ∃ y, y = mset m0 23 0 p1 := ⟨_, rfl⟩
  rw [← em1] at hW
  replace h := h m1 em1
  refine lv_iload_n hx hb dX6_holds_5 rfl (lv_at hl 1 rfl) ?_
  refine lv_if_le (tgt := 13) hx hb dX6_holds_6 (by decide) (fun c_2 => ?_) (fun c_2 => ?_)
  · replace h := h.1 c_2
    refine lv_iconst (v := 0) hx hb dX6_holds_13 (by decide) ?_
    refine W.widen (k := 0) (n := 8 * (0)) (by omega) (by omega) ?_
    exact (z_zret hx hb hr hlocks hW rfl ⟨h, (Or.inl rfl)⟩ dX6_holds_14)
  · replace h := h.2 c_2
    refine lv_iconst (v := 1) hx hb dX6_holds_9 (by decide) ?_
    refine lv_goto (tgt := 14) hx hb dX6_holds_10 (by decide) ?_
    refine W.widen (k := 0) (n := 8 * (0)) (by omega) (by omega) ?_
    exact (z_zret hx hb hr hlocks hW rfl ⟨h, (Or.inr rfl)⟩ dX6_holds_14)

def wX6_plain (m0 : mS) (p1 : Int32) (Q : Int32 → mS → Prop) : Prop := (∀ m1 : mS, m1 = mset m0 23 0 0 → Q p1 m1)
theorem hin_X6_plain_6 : ∀ w ∈ u_ws RX6 TX6 24, w ∈ wsX6_plain := by decide +kernel
set_option maxHeartbeats 8000000 in
set_option maxRecDepth 100000 in
theorem cX6_plain_ok (l : Launch) (hlt : l.stackTraces = false) (D : zD) (S0 : Nat) (g : zF) (m0 : mS) (p1 : Int32)  (Q : Int32 → mS → Prop) (h : wX6_plain m0 p1 Q) : Met l yX6_plain wsX6_plain { frames := 0, cells := 0, slots := 8 * (0), locals := 0 } (zPc D S0 (mR D S0 g m0) [.ref (S0 + 9), .int p1]) (va_Qi Q (zB D S0 (fun u => mR D S0 g u)) (zA S0)) (0) (8 * (0)) (zA S0) := by
  refine zMet (cc := cX6_plain) (maxL := 2) (ret := (some .int)) (by decide) rfl (Nat.le_of_ble_eq_true rfl) (fun p e s m args below meth c ls hx hb hr hml hown hts hlocks hnm hs hE hW hl => ?_)
  have hin6 := hin_X6_plain_6
  replace hl : lv_has ls 2 [(0, .ref (S0 + 9)), (1, .int p1)] := hl
  unfold wX6_plain at h
  refine lv_aload_n hx hb dX6_plain_0 rfl (lv_at hl 0 rfl) ?_
  refine lv_iconst (v := 0) hx hb dX6_plain_1 (by decide) ?_
  refine zw_put (C := RX6) (T := TX6) (N := 24) hx hb hts hin6 tyX6 tyX6_ok nmX6 hown hE.1 hW mC_M rfl 23 (by decide) (hts (.fieldLink RX6 67 "UnionListModel" "thrown" "I") (by decide +kernel)) (fun _ h9 => h9) rfl rfl rfl (Nat.le_of_ble_eq_true rfl) dX6_plain_2 mP_23 (fun H locs hW => ?_)
  obtain ⟨m1, em1⟩ : ∃ y, y = mset m0 23 0 0 := ⟨_, rfl⟩
  rw [← em1] at hW
  replace h := h m1 em1
  refine lv_iload_n hx hb dX6_plain_5 rfl (lv_at hl 1 rfl) ?_
  refine W.widen (k := 0) (n := 8 * (0)) (by omega) (by omega) ?_
  exact (z_iret hx hb hr hlocks hW h dX6_plain_6)

def wX6_between (m0 : mS) (p1 : Int32) (p2 : Int32) (p3 : Int32) (Q : Int32 → mS → Prop) : Prop := ((p1 < p2 → Q 0 m0) ∧ (¬ p1 < p2 → ((p3 < p1 → Q 0 m0) ∧ (¬ p3 < p1 → Q 1 m0))))
set_option maxHeartbeats 8000000 in
set_option maxRecDepth 100000 in
theorem cX6_between_ok (l : Launch) (hlt : l.stackTraces = false) (D : zD) (S0 : Nat) (g : zF) (m0 : mS) (p1 : Int32) (p2 : Int32) (p3 : Int32)  (Q : Int32 → mS → Prop) (h : wX6_between m0 p1 p2 p3 Q) : Met l yX6_between wsX6_between { frames := 0, cells := 0, slots := 8 * (0), locals := 0 } (zPc D S0 (mR D S0 g m0) [.ref (S0 + 9), .int p1, .int p2, .int p3]) (va_Qi (fun r u => Q r u ∧ (r = 0 ∨ r = 1)) (zB D S0 (fun u => mR D S0 g u)) (zA S0)) (0) (8 * (0)) (zA S0) := by
  refine zMet (cc := cX6_between) (maxL := 4) (ret := (some .boolean)) (by decide) rfl (Nat.le_of_ble_eq_true rfl) (fun p e s m args below meth c ls hx hb hr hml hown hts hlocks hnm hs hE hW hl => ?_)
  replace hl : lv_has ls 4 [(0, .ref (S0 + 9)), (1, .int p1), (2, .int p2), (3, .int p3)] := hl
  unfold wX6_between at h
  refine lv_iload_n hx hb dX6_between_0 rfl (lv_at hl 1 rfl) ?_
  refine lv_iload_n hx hb dX6_between_1 rfl (lv_at hl 2 rfl) ?_
  refine lv_icmp_lt (tgt := 14) hx hb dX6_between_2 (by decide) (fun c_1 => ?_) (fun c_1 => ?_)
  · replace h := h.1 c_1
    refine lv_iconst (v := 0) hx hb dX6_between_14 (by decide) ?_
    refine W.widen (k := 0) (n := 8 * (0)) (by omega) (by omega) ?_
    exact (z_zret hx hb hr hlocks hW rfl ⟨h, (Or.inl rfl)⟩ dX6_between_15)
  · replace h := h.2 c_1
    refine lv_iload_n hx hb dX6_between_5 rfl (lv_at hl 1 rfl) ?_
    refine lv_iload_n hx hb dX6_between_6 rfl (lv_at hl 3 rfl) ?_
    refine lv_icmp_gt (tgt := 14) hx hb dX6_between_7 (by decide) (fun c_2 => ?_) (fun c_2 => ?_)
    · replace h := h.1 c_2
      refine lv_iconst (v := 0) hx hb dX6_between_14 (by decide) ?_
      refine W.widen (k := 0) (n := 8 * (0)) (by omega) (by omega) ?_
      exact (z_zret hx hb hr hlocks hW rfl ⟨h, (Or.inl rfl)⟩ dX6_between_15)
    · replace h := h.2 c_2
      refine lv_iconst (v := 1) hx hb dX6_between_10 (by decide) ?_
      refine lv_goto (tgt := 15) hx hb dX6_between_11 (by decide) ?_
      refine W.widen (k := 0) (n := 8 * (0)) (by omega) (by omega) ?_
      exact (z_zret hx hb hr hlocks hW rfl ⟨h, (Or.inr rfl)⟩ dX6_between_15)

def wX6_isHouse (m0 : mS) (p1 : Int32) (Q : Int32 → mS → Prop) : Prop := (wX6_between m0 p1 0 5 (fun r1 m2 => Q r1 m2))
set_option maxHeartbeats 8000000 in
set_option maxRecDepth 100000 in
theorem cX6_isHouse_ok (l : Launch) (hlt : l.stackTraces = false) (D : zD) (S0 : Nat) (g : zF) (m0 : mS) (p1 : Int32)  (Q : Int32 → mS → Prop) (h : wX6_isHouse m0 p1 Q) : Met l yX6_isHouse wsX6_isHouse { frames := 1, cells := 0, slots := 8 * (0), locals := 23 } (zPc D S0 (mR D S0 g m0) [.ref (S0 + 9), .int p1]) (va_Qi (fun r u => Q r u ∧ (r = 0 ∨ r = 1)) (zB D S0 (fun u => mR D S0 g u)) (zA S0)) (0) (8 * (0)) (zA S0) := by
  refine zMet (cc := cX6_isHouse) (maxL := 2) (ret := (some .boolean)) (by decide) rfl (Nat.le_of_ble_eq_true rfl) (fun p e s m args below meth c ls hx hb hr hml hown hts hlocks hnm hs hE hW hl => ?_)
  replace hl : lv_has ls 2 [(0, .ref (S0 + 9)), (1, .int p1)] := hl
  unfold wX6_isHouse at h
  refine lv_aload_n hx hb dX6_isHouse_0 rfl (lv_at hl 0 rfl) ?_
  refine lv_iload_n hx hb dX6_isHouse_1 rfl (lv_at hl 1 rfl) ?_
  refine lv_iconst (v := 0) hx hb dX6_isHouse_2 (by decide) ?_
  refine lv_iconst (v := 5) hx hb dX6_isHouse_3 (by decide) ?_
  refine zc_i (va_runV (As := [.int p1, .int 0, .int 5]) (rest := []) ⟨hx, hb, hml, hown, hts⟩ (cX6_between_ok l hlt D S0 g m0 p1 0 5 _ h) (cwV 3 hts gX6_isHouse_X6_between rfl rfl rfl (by decide +kernel) ⟨Nat.le_of_ble_eq_true rfl, Nat.le_of_ble_eq_true rfl⟩) (zpreV (q := (RX6, TX6, 24)) hE hs hW mC_M rfl) rfl rfl hl.1 rfl (lv_room (Nat.le_of_ble_eq_true rfl)) dX6_isHouse_4 ⟨by show _ ≤ 0; omega, by show _ ≤ 8 * (0); omega⟩) hW (fun r1 m2 H locs h hW => ?_)
  obtain ⟨h, hz_r1⟩ := h
  refine W.widen (k := 0) (n := 8 * (0)) (by omega) (by omega) ?_
  refine W.widen (k := 0) (n := 8 * (0)) (by omega) (by omega) ?_
  exact (z_zret hx hb hr hlocks hW (nar_z hz_r1) ⟨h, hz_r1⟩ dX6_isHouse_7)

def wX6_isCopy (m0 : mS) (p1 : Int32) (Q : Int32 → mS → Prop) : Prop := (wX6_between m0 p1 0 ((m0 7 0) - 1) (fun r1 m2 => Q r1 m2))
theorem hin_X6_isCopy_6 : ∀ w ∈ u_ws RX6 TX6 24, w ∈ wsX6_isCopy := by decide +kernel
set_option maxHeartbeats 8000000 in
set_option maxRecDepth 100000 in
theorem cX6_isCopy_ok (l : Launch) (hlt : l.stackTraces = false) (D : zD) (S0 : Nat) (g : zF) (m0 : mS) (p1 : Int32)  (Q : Int32 → mS → Prop) (h : wX6_isCopy m0 p1 Q) : Met l yX6_isCopy wsX6_isCopy { frames := 1, cells := 0, slots := 8 * (0), locals := 23 } (zPc D S0 (mR D S0 g m0) [.ref (S0 + 9), .int p1]) (va_Qi (fun r u => Q r u ∧ (r = 0 ∨ r = 1)) (zB D S0 (fun u => mR D S0 g u)) (zA S0)) (0) (8 * (0)) (zA S0) := by
  refine zMet (cc := cX6_isCopy) (maxL := 2) (ret := (some .boolean)) (by decide) rfl (Nat.le_of_ble_eq_true rfl) (fun p e s m args below meth c ls hx hb hr hml hown hts hlocks hnm hs hE hW hl => ?_)
  have hin6 := hin_X6_isCopy_6
  replace hl : lv_has ls 2 [(0, .ref (S0 + 9)), (1, .int p1)] := hl
  unfold wX6_isCopy at h
  refine lv_aload_n hx hb dX6_isCopy_0 rfl (lv_at hl 0 rfl) ?_
  refine lv_iload_n hx hb dX6_isCopy_1 rfl (lv_at hl 1 rfl) ?_
  refine lv_iconst (v := 0) hx hb dX6_isCopy_2 (by decide) ?_
  refine lv_aload_n hx hb dX6_isCopy_3 rfl (lv_at hl 0 rfl) ?_
  refine zw_get (C := RX6) (T := TX6) (N := 24) hx hb hts hin6 hown hE.1 hW mC_M rfl 7 (by decide) (hts (.fieldLink RX6 75 "UnionListModel" "copies" "I") (by decide +kernel)) (fun _ h9 => h9) rfl dX6_isCopy_4 ?_
  refine lv_iconst (v := 1) hx hb dX6_isCopy_7 (by decide) ?_
  refine lv_isub hx hb dX6_isCopy_8 ?_
  refine zc_i (va_runV (As := [.int p1, .int 0, .int ((m0 7 0) - 1)]) (rest := []) ⟨hx, hb, hml, hown, hts⟩ (cX6_between_ok l hlt D S0 g m0 p1 0 ((m0 7 0) - 1) _ h) (cwV 3 hts gX6_isCopy_X6_between rfl rfl rfl (by decide +kernel) ⟨Nat.le_of_ble_eq_true rfl, Nat.le_of_ble_eq_true rfl⟩) (zpreV (q := (RX6, TX6, 24)) hE hs hW mC_M rfl) rfl rfl hl.1 rfl (lv_room (Nat.le_of_ble_eq_true rfl)) dX6_isCopy_9 ⟨by show _ ≤ 0; omega, by show _ ≤ 8 * (0); omega⟩) hW (fun r1 m2 H locs h hW => ?_)
  obtain ⟨h, hz_r1⟩ := h
  refine W.widen (k := 0) (n := 8 * (0)) (by omega) (by omega) ?_
  refine W.widen (k := 0) (n := 8 * (0)) (by omega) (by omega) ?_
  exact (z_zret hx hb hr hlocks hW (nar_z hz_r1) ⟨h, hz_r1⟩ dX6_isCopy_12)

def wX6_isRequest (m0 : mS) (p1 : Int32) (Q : Int32 → mS → Prop) : Prop := (wX6_between m0 p1 0 ((m0 15 0) - 1) (fun r1 m2 => Q r1 m2))
theorem hin_X6_isRequest_6 : ∀ w ∈ u_ws RX6 TX6 24, w ∈ wsX6_isRequest := by decide +kernel
set_option maxHeartbeats 8000000 in
set_option maxRecDepth 100000 in
theorem cX6_isRequest_ok (l : Launch) (hlt : l.stackTraces = false) (D : zD) (S0 : Nat) (g : zF) (m0 : mS) (p1 : Int32)  (Q : Int32 → mS → Prop) (h : wX6_isRequest m0 p1 Q) : Met l yX6_isRequest wsX6_isRequest { frames := 1, cells := 0, slots := 8 * (0), locals := 23 } (zPc D S0 (mR D S0 g m0) [.ref (S0 + 9), .int p1]) (va_Qi (fun r u => Q r u ∧ (r = 0 ∨ r = 1)) (zB D S0 (fun u => mR D S0 g u)) (zA S0)) (0) (8 * (0)) (zA S0) := by
  refine zMet (cc := cX6_isRequest) (maxL := 2) (ret := (some .boolean)) (by decide) rfl (Nat.le_of_ble_eq_true rfl) (fun p e s m args below meth c ls hx hb hr hml hown hts hlocks hnm hs hE hW hl => ?_)
  have hin6 := hin_X6_isRequest_6
  replace hl : lv_has ls 2 [(0, .ref (S0 + 9)), (1, .int p1)] := hl
  unfold wX6_isRequest at h
  refine lv_aload_n hx hb dX6_isRequest_0 rfl (lv_at hl 0 rfl) ?_
  refine lv_iload_n hx hb dX6_isRequest_1 rfl (lv_at hl 1 rfl) ?_
  refine lv_iconst (v := 0) hx hb dX6_isRequest_2 (by decide) ?_
  refine lv_aload_n hx hb dX6_isRequest_3 rfl (lv_at hl 0 rfl) ?_
  refine zw_get (C := RX6) (T := TX6) (N := 24) hx hb hts hin6 hown hE.1 hW mC_M rfl 15 (by decide) (hts (.fieldLink RX6 78 "UnionListModel" "requests" "I") (by decide +kernel)) (fun _ h9 => h9) rfl dX6_isRequest_4 ?_
  refine lv_iconst (v := 1) hx hb dX6_isRequest_7 (by decide) ?_
  refine lv_isub hx hb dX6_isRequest_8 ?_
  refine zc_i (va_runV (As := [.int p1, .int 0, .int ((m0 15 0) - 1)]) (rest := []) ⟨hx, hb, hml, hown, hts⟩ (cX6_between_ok l hlt D S0 g m0 p1 0 ((m0 15 0) - 1) _ h) (cwV 3 hts gX6_isRequest_X6_between rfl rfl rfl (by decide +kernel) ⟨Nat.le_of_ble_eq_true rfl, Nat.le_of_ble_eq_true rfl⟩) (zpreV (q := (RX6, TX6, 24)) hE hs hW mC_M rfl) rfl rfl hl.1 rfl (lv_room (Nat.le_of_ble_eq_true rfl)) dX6_isRequest_9 ⟨by show _ ≤ 0; omega, by show _ ≤ 8 * (0); omega⟩) hW (fun r1 m2 H locs h hW => ?_)
  obtain ⟨h, hz_r1⟩ := h
  refine W.widen (k := 0) (n := 8 * (0)) (by omega) (by omega) ?_
  refine W.widen (k := 0) (n := 8 * (0)) (by omega) (by omega) ?_
  exact (z_zret hx hb hr hlocks hW (nar_z hz_r1) ⟨h, hz_r1⟩ dX6_isRequest_12)

def wX6_way (m0 : mS) (p1 : Int32) (p2 : Int32) (Q : Int32 → mS → Prop) : Prop := ((p2 ≤ p1 → Q ((p1 - p2) + 1) m0) ∧ (¬ p2 ≤ p1 → Q ((p2 - p1) + 1) m0))
set_option maxHeartbeats 8000000 in
set_option maxRecDepth 100000 in
theorem cX6_way_ok (l : Launch) (hlt : l.stackTraces = false) (D : zD) (S0 : Nat) (g : zF) (m0 : mS) (p1 : Int32) (p2 : Int32)  (Q : Int32 → mS → Prop) (h : wX6_way m0 p1 p2 Q) : Met l yX6_way wsX6_way { frames := 0, cells := 0, slots := 8 * (0), locals := 0 } (zPc D S0 (mR D S0 g m0) [.ref (S0 + 9), .int p1, .int p2]) (va_Qi Q (zB D S0 (fun u => mR D S0 g u)) (zA S0)) (0) (8 * (0)) (zA S0) := by
  refine zMet (cc := cX6_way) (maxL := 3) (ret := (some .int)) (by decide) rfl (Nat.le_of_ble_eq_true rfl) (fun p e s m args below meth c ls hx hb hr hml hown hts hlocks hnm hs hE hW hl => ?_)
  replace hl : lv_has ls 3 [(0, .ref (S0 + 9)), (1, .int p1), (2, .int p2)] := hl
  unfold wX6_way at h
  refine lv_iload_n hx hb dX6_way_0 rfl (lv_at hl 1 rfl) ?_
  refine lv_iload_n hx hb dX6_way_1 rfl (lv_at hl 2 rfl) ?_
  refine lv_icmp_ge (tgt := 13) hx hb dX6_way_2 (by decide) (fun c_1 => ?_) (fun c_1 => ?_)
  · replace h := h.1 c_1
    refine lv_iload_n hx hb dX6_way_13 rfl (lv_at hl 1 rfl) ?_
    refine lv_iload_n hx hb dX6_way_14 rfl (lv_at hl 2 rfl) ?_
    refine lv_isub hx hb dX6_way_15 ?_
    refine lv_iconst (v := 1) hx hb dX6_way_16 (by decide) ?_
    refine lv_iadd hx hb dX6_way_17 ?_
    refine W.widen (k := 0) (n := 8 * (0)) (by omega) (by omega) ?_
    exact (z_iret hx hb hr hlocks hW h dX6_way_18)
  · replace h := h.2 c_1
    refine lv_iload_n hx hb dX6_way_5 rfl (lv_at hl 2 rfl) ?_
    refine lv_iload_n hx hb dX6_way_6 rfl (lv_at hl 1 rfl) ?_
    refine lv_isub hx hb dX6_way_7 ?_
    refine lv_iconst (v := 1) hx hb dX6_way_8 (by decide) ?_
    refine lv_iadd hx hb dX6_way_9 ?_
    refine lv_goto (tgt := 18) hx hb dX6_way_10 (by decide) ?_
    refine W.widen (k := 0) (n := 8 * (0)) (by omega) (by omega) ?_
    exact (z_iret hx hb hr hlocks hW h dX6_way_18)

def wX6_send (m0 : mS) (p1 : Int32) (p2 : Int32) (p3 : Int32) (Q : Int32 → mS → Prop) : Prop := (vp_in (m0 19 0) 4000 ∧ (∀ m2 : mS, m2 = mset m0 16 (m0 19 0).toNatClampNeg p1 → (vp_in (m2 19 0) 4000 ∧ (∀ m4 : mS, m4 = mset m2 17 (m2 19 0).toNatClampNeg p2 → (vp_in (m4 19 0) 4000 ∧ (∀ m6 : mS, m6 = mset m4 18 (m4 19 0).toNatClampNeg ((m4 22 0) + p3) → (∀ m7 : mS, m7 = mset m6 19 0 ((m6 19 0) + 1) → Q ((m7 22 0) + p3) m7)))))))
theorem hin_X6_send_6 : ∀ w ∈ u_ws RX6 TX6 24, w ∈ wsX6_send := by decide +kernel
set_option maxHeartbeats 8000000 in
set_option maxRecDepth 100000 in
theorem cX6_send_ok (l : Launch) (hlt : l.stackTraces = false) (D : zD) (S0 : Nat) (g : zF) (m0 : mS) (p1 : Int32) (p2 : Int32) (p3 : Int32)  (Q : Int32 → mS → Prop) (h : wX6_send m0 p1 p2 p3 Q) : Met l yX6_send wsX6_send { frames := 0, cells := 0, slots := 8 * (0), locals := 0 } (zPc D S0 (mR D S0 g m0) [.ref (S0 + 9), .int p1, .int p2, .int p3]) (va_Qi Q (zB D S0 (fun u => mR D S0 g u)) (zA S0)) (0) (8 * (0)) (zA S0) := by
  refine zMet (cc := cX6_send) (maxL := 4) (ret := (some .int)) (by decide) rfl (Nat.le_of_ble_eq_true rfl) (fun p e s m args below meth c ls hx hb hr hml hown hts hlocks hnm hs hE hW hl => ?_)
  have hin6 := hin_X6_send_6
  replace hl : lv_has ls 4 [(0, .ref (S0 + 9)), (1, .int p1), (2, .int p2), (3, .int p3)] := hl
  unfold wX6_send at h
  refine lv_aload_n hx hb dX6_send_0 rfl (lv_at hl 0 rfl) ?_
  refine zw_get (C := RX6) (T := TX6) (N := 24) hx hb hts hin6 hown hE.1 hW mC_M rfl 16 (by decide) (hts (.fieldLink RX6 52 "UnionListModel" "kind" "[I") (by decide +kernel)) (fun _ h9 => h9) rfl dX6_send_1 ?_
  refine lv_aload_n hx hb dX6_send_4 rfl (lv_at hl 0 rfl) ?_
  refine zw_get (C := RX6) (T := TX6) (N := 24) hx hb hts hin6 hown hE.1 hW mC_M rfl 19 (by decide) (hts (.fieldLink RX6 81 "UnionListModel" "under" "I") (by decide +kernel)) (fun _ h9 => h9) rfl dX6_send_5 ?_
  refine lv_iload_n hx hb dX6_send_8 rfl (lv_at hl 1 rfl) ?_
  obtain ⟨hb_1, h⟩ := h
  refine zw_iast hx hb hE.1 hW mC_16 hb_1 dX6_send_9 mP_16 (fun H locs hW => ?_)
  obtain ⟨m2, em2⟩ : ∃ y, y = mset m0 16 (m0 19 0).toNatClampNeg p1 := ⟨_, rfl⟩
  rw [← em2] at hW
  replace h := h m2 em2
  refine lv_aload_n hx hb dX6_send_10 rfl (lv_at hl 0 rfl) ?_
  refine zw_get (C := RX6) (T := TX6) (N := 24) hx hb hts hin6 hown hE.1 hW mC_M rfl 17 (by decide) (hts (.fieldLink RX6 55 "UnionListModel" "what" "[I") (by decide +kernel)) (fun _ h9 => h9) rfl dX6_send_11 ?_
  refine lv_aload_n hx hb dX6_send_14 rfl (lv_at hl 0 rfl) ?_
  refine zw_get (C := RX6) (T := TX6) (N := 24) hx hb hts hin6 hown hE.1 hW mC_M rfl 19 (by decide) (hts (.fieldLink RX6 81 "UnionListModel" "under" "I") (by decide +kernel)) (fun _ h9 => h9) rfl dX6_send_15 ?_
  refine lv_iload_n hx hb dX6_send_18 rfl (lv_at hl 2 rfl) ?_
  obtain ⟨hb_3, h⟩ := h
  refine zw_iast hx hb hE.1 hW mC_17 hb_3 dX6_send_19 mP_17 (fun H locs hW => ?_)
  obtain ⟨m4, em4⟩ : ∃ y, y = mset m2 17 (m2 19 0).toNatClampNeg p2 := ⟨_, rfl⟩
  rw [← em4] at hW
  replace h := h m4 em4
  refine lv_aload_n hx hb dX6_send_20 rfl (lv_at hl 0 rfl) ?_
  refine zw_get (C := RX6) (T := TX6) (N := 24) hx hb hts hin6 hown hE.1 hW mC_M rfl 18 (by decide) (hts (.fieldLink RX6 58 "UnionListModel" "day" "[I") (by decide +kernel)) (fun _ h9 => h9) rfl dX6_send_21 ?_
  refine lv_aload_n hx hb dX6_send_24 rfl (lv_at hl 0 rfl) ?_
  refine zw_get (C := RX6) (T := TX6) (N := 24) hx hb hts hin6 hown hE.1 hW mC_M rfl 19 (by decide) (hts (.fieldLink RX6 81 "UnionListModel" "under" "I") (by decide +kernel)) (fun _ h9 => h9) rfl dX6_send_25 ?_
  refine lv_aload_n hx hb dX6_send_28 rfl (lv_at hl 0 rfl) ?_
  refine zw_get (C := RX6) (T := TX6) (N := 24) hx hb hts hin6 hown hE.1 hW mC_M rfl 22 (by decide) (hts (.fieldLink RX6 84 "UnionListModel" "now" "I") (by decide +kernel)) (fun _ h9 => h9) rfl dX6_send_29 ?_
  refine lv_iload_n hx hb dX6_send_32 rfl (lv_at hl 3 rfl) ?_
  refine lv_iadd hx hb dX6_send_33 ?_
  obtain ⟨hb_5, h⟩ := h
  refine zw_iast hx hb hE.1 hW mC_18 hb_5 dX6_send_34 mP_18 (fun H locs hW => ?_)
  obtain ⟨m6, em6⟩ : ∃ y, y = mset m4 18 (m4 19 0).toNatClampNeg ((m4 22 0) + p3) := ⟨_, rfl⟩
  rw [← em6] at hW
  replace h := h m6 em6
  refine lv_aload_n hx hb dX6_send_35 rfl (lv_at hl 0 rfl) ?_
  refine lv_dup hx hb dX6_send_36 rfl ?_
  refine zw_get (C := RX6) (T := TX6) (N := 24) hx hb hts hin6 hown hE.1 hW mC_M rfl 19 (by decide) (hts (.fieldLink RX6 81 "UnionListModel" "under" "I") (by decide +kernel)) (fun _ h9 => h9) rfl dX6_send_37 ?_
  refine lv_iconst (v := 1) hx hb dX6_send_40 (by decide) ?_
  refine lv_iadd hx hb dX6_send_41 ?_
  refine zw_put (C := RX6) (T := TX6) (N := 24) hx hb hts hin6 tyX6 tyX6_ok nmX6 hown hE.1 hW mC_M rfl 19 (by decide) (hts (.fieldLink RX6 81 "UnionListModel" "under" "I") (by decide +kernel)) (fun _ h9 => h9) rfl rfl rfl (Nat.le_of_ble_eq_true rfl) dX6_send_42 mP_19 (fun H locs hW => ?_)
  obtain ⟨m7, em7⟩ : ∃ y, y = mset m6 19 0 ((m6 19 0) + 1) := ⟨_, rfl⟩
  rw [← em7] at hW
  replace h := h m7 em7
  refine lv_aload_n hx hb dX6_send_45 rfl (lv_at hl 0 rfl) ?_
  refine zw_get (C := RX6) (T := TX6) (N := 24) hx hb hts hin6 hown hE.1 hW mC_M rfl 22 (by decide) (hts (.fieldLink RX6 84 "UnionListModel" "now" "I") (by decide +kernel)) (fun _ h9 => h9) rfl dX6_send_46 ?_
  refine lv_iload_n hx hb dX6_send_49 rfl (lv_at hl 3 rfl) ?_
  refine lv_iadd hx hb dX6_send_50 ?_
  refine W.widen (k := 0) (n := 8 * (0)) (by omega) (by omega) ?_
  exact (z_iret hx hb hr hlocks hW h dX6_send_51)

def wX6_owe (m0 : mS) (p1 : Int32) (p2 : Int32) (p3 : Int32) (Q : mS → Prop) : Prop := (vp_in ((6 * p1) + p2) 36 ∧ (vp_in ((6 * p1) + p2) 36 ∧ (∀ m3 : mS, m3 = mset m0 20 ((6 * p1) + p2).toNatClampNeg ((m0 20 ((6 * p1) + p2).toNatClampNeg) + p3) → (vp_in ((6 * p2) + p1) 36 ∧ (vp_in ((6 * p2) + p1) 36 ∧ (∀ m6 : mS, m6 = mset m3 20 ((6 * p2) + p1).toNatClampNeg ((m3 20 ((6 * p2) + p1).toNatClampNeg) - p3) → Q m6))))))
theorem hin_X6_owe_6 : ∀ w ∈ u_ws RX6 TX6 24, w ∈ wsX6_owe := by decide +kernel
set_option maxHeartbeats 8000000 in
set_option maxRecDepth 100000 in
theorem cX6_owe_ok (l : Launch) (hlt : l.stackTraces = false) (D : zD) (S0 : Nat) (g : zF) (m0 : mS) (p1 : Int32) (p2 : Int32) (p3 : Int32)  (Q : mS → Prop) (h : wX6_owe m0 p1 p2 p3 Q) : Met l yX6_owe wsX6_owe { frames := 0, cells := 0, slots := 8 * (0), locals := 0 } (zPc D S0 (mR D S0 g m0) [.ref (S0 + 9), .int p1, .int p2, .int p3]) (va_Qv Q (zB D S0 (fun u => mR D S0 g u)) (zA S0)) (0) (8 * (0)) (zA S0) := by
  refine zMet (cc := cX6_owe) (maxL := 4) (ret := none) (by decide) rfl (Nat.le_of_ble_eq_true rfl) (fun p e s m args below meth c ls hx hb hr hml hown hts hlocks hnm hs hE hW hl => ?_)
  have hin6 := hin_X6_owe_6
  replace hl : lv_has ls 4 [(0, .ref (S0 + 9)), (1, .int p1), (2, .int p2), (3, .int p3)] := hl
  unfold wX6_owe at h
  refine lv_aload_n hx hb dX6_owe_0 rfl (lv_at hl 0 rfl) ?_
  refine zw_get (C := RX6) (T := TX6) (N := 24) hx hb hts hin6 hown hE.1 hW mC_M rfl 20 (by decide) (hts (.fieldLink RX6 61 "UnionListModel" "debt" "[I") (by decide +kernel)) (fun _ h9 => h9) rfl dX6_owe_1 ?_
  refine lv_bipush (v := 6) hx hb dX6_owe_4 (by decide) ?_
  refine lv_iload_n hx hb dX6_owe_6 rfl (lv_at hl 1 rfl) ?_
  refine lv_imul hx hb dX6_owe_7 ?_
  refine lv_iload_n hx hb dX6_owe_8 rfl (lv_at hl 2 rfl) ?_
  refine lv_iadd hx hb dX6_owe_9 ?_
  refine lv_dup2_11 hx hb dX6_owe_10 rfl rfl ?_
  obtain ⟨hb_1, h⟩ := h
  refine zw_iald hx hb hE.1 hW mC_20 hb_1 dX6_owe_11 ?_
  refine lv_iload_n hx hb dX6_owe_12 rfl (lv_at hl 3 rfl) ?_
  refine lv_iadd hx hb dX6_owe_13 ?_
  obtain ⟨hb_2, h⟩ := h
  refine zw_iast hx hb hE.1 hW mC_20 hb_2 dX6_owe_14 mP_20 (fun H locs hW => ?_)
  obtain ⟨m3, em3⟩ : ∃ y, y = mset m0 20 ((6 * p1) + p2).toNatClampNeg ((m0 20 ((6 * p1) + p2).toNatClampNeg) + p3) := ⟨_, rfl⟩
  rw [← em3] at hW
  replace h := h m3 em3
  refine lv_aload_n hx hb dX6_owe_15 rfl (lv_at hl 0 rfl) ?_
  refine zw_get (C := RX6) (T := TX6) (N := 24) hx hb hts hin6 hown hE.1 hW mC_M rfl 20 (by decide) (hts (.fieldLink RX6 61 "UnionListModel" "debt" "[I") (by decide +kernel)) (fun _ h9 => h9) rfl dX6_owe_16 ?_
  refine lv_bipush (v := 6) hx hb dX6_owe_19 (by decide) ?_
  refine lv_iload_n hx hb dX6_owe_21 rfl (lv_at hl 2 rfl) ?_
  refine lv_imul hx hb dX6_owe_22 ?_
  refine lv_iload_n hx hb dX6_owe_23 rfl (lv_at hl 1 rfl) ?_
  refine lv_iadd hx hb dX6_owe_24 ?_
  refine lv_dup2_11 hx hb dX6_owe_25 rfl rfl ?_
  obtain ⟨hb_4, h⟩ := h
  refine zw_iald hx hb hE.1 hW mC_20 hb_4 dX6_owe_26 ?_
  refine lv_iload_n hx hb dX6_owe_27 rfl (lv_at hl 3 rfl) ?_
  refine lv_isub hx hb dX6_owe_28 ?_
  obtain ⟨hb_5, h⟩ := h
  refine zw_iast hx hb hE.1 hW mC_20 hb_5 dX6_owe_29 mP_20 (fun H locs hW => ?_)
  obtain ⟨m6, em6⟩ : ∃ y, y = mset m3 20 ((6 * p2) + p1).toNatClampNeg ((m3 20 ((6 * p2) + p1).toNatClampNeg) - p3) := ⟨_, rfl⟩
  rw [← em6] at hW
  replace h := h m6 em6
  refine W.widen (k := 0) (n := 8 * (0)) (by omega) (by omega) ?_
  exact (z_vret hx hb hr hlocks hW h dX6_owe_30)

def wX6_free (m0 : mS) (p1 : Int32) (Q : Int32 → mS → Prop) : Prop := (vp_in p1 20 ∧ (vp_in p1 20 ∧ (((m0 2 p1.toNatClampNeg) = (m0 0 p1.toNatClampNeg) → (vp_in p1 20 ∧ (((m0 6 p1.toNatClampNeg) = 0 → Q 1 m0) ∧ (¬ (m0 6 p1.toNatClampNeg) = 0 → Q 0 m0)))) ∧ (¬ (m0 2 p1.toNatClampNeg) = (m0 0 p1.toNatClampNeg) → Q 0 m0))))
theorem hin_X6_free_6 : ∀ w ∈ u_ws RX6 TX6 24, w ∈ wsX6_free := by decide +kernel
set_option maxHeartbeats 8000000 in
set_option maxRecDepth 100000 in
theorem cX6_free_ok (l : Launch) (hlt : l.stackTraces = false) (D : zD) (S0 : Nat) (g : zF) (m0 : mS) (p1 : Int32)  (Q : Int32 → mS → Prop) (h : wX6_free m0 p1 Q) : Met l yX6_free wsX6_free { frames := 0, cells := 0, slots := 8 * (0), locals := 0 } (zPc D S0 (mR D S0 g m0) [.ref (S0 + 9), .int p1]) (va_Qi (fun r u => Q r u ∧ (r = 0 ∨ r = 1)) (zB D S0 (fun u => mR D S0 g u)) (zA S0)) (0) (8 * (0)) (zA S0) := by
  refine zMet (cc := cX6_free) (maxL := 2) (ret := (some .boolean)) (by decide) rfl (Nat.le_of_ble_eq_true rfl) (fun p e s m args below meth c ls hx hb hr hml hown hts hlocks hnm hs hE hW hl => ?_)
  have hin6 := hin_X6_free_6
  replace hl : lv_has ls 2 [(0, .ref (S0 + 9)), (1, .int p1)] := hl
  unfold wX6_free at h
  refine lv_aload_n hx hb dX6_free_0 rfl (lv_at hl 0 rfl) ?_
  refine zw_get (C := RX6) (T := TX6) (N := 24) hx hb hts hin6 hown hE.1 hW mC_M rfl 2 (by decide) (hts (.fieldLink RX6 16 "UnionListModel" "place" "[I") (by decide +kernel)) (fun _ h9 => h9) rfl dX6_free_1 ?_
  refine lv_iload_n hx hb dX6_free_4 rfl (lv_at hl 1 rfl) ?_
  obtain ⟨hb_1, h⟩ := h
  refine zw_iald hx hb hE.1 hW mC_2 hb_1 dX6_free_5 ?_
  refine lv_aload_n hx hb dX6_free_6 rfl (lv_at hl 0 rfl) ?_
  refine zw_get (C := RX6) (T := TX6) (N := 24) hx hb hts hin6 hown hE.1 hW mC_M rfl 0 (by decide) (hts (.fieldLink RX6 7 "UnionListModel" "home" "[I") (by decide +kernel)) (fun _ h9 => h9) rfl dX6_free_7 ?_
  refine lv_iload_n hx hb dX6_free_10 rfl (lv_at hl 1 rfl) ?_
  obtain ⟨hb_2, h⟩ := h
  refine zw_iald hx hb hE.1 hW mC_0 hb_2 dX6_free_11 ?_
  refine lv_icmp_ne (tgt := 28) hx hb dX6_free_12 (by decide) (fun c_3 => ?_) (fun c_3 => ?_)
  · replace h := h.2 c_3
    refine lv_iconst (v := 0) hx hb dX6_free_28 (by decide) ?_
    refine W.widen (k := 0) (n := 8 * (0)) (by omega) (by omega) ?_
    exact (z_zret hx hb hr hlocks hW rfl ⟨h, (Or.inl rfl)⟩ dX6_free_29)
  · replace h := h.1 c_3
    refine lv_aload_n hx hb dX6_free_15 rfl (lv_at hl 0 rfl) ?_
    refine zw_get (C := RX6) (T := TX6) (N := 24) hx hb hts hin6 hown hE.1 hW mC_M rfl 6 (by decide) (hts (.fieldLink RX6 28 "UnionListModel" "seen" "[I") (by decide +kernel)) (fun _ h9 => h9) rfl dX6_free_16 ?_
    refine lv_iload_n hx hb dX6_free_19 rfl (lv_at hl 1 rfl) ?_
    obtain ⟨hb_4, h⟩ := h
    refine zw_iald hx hb hE.1 hW mC_6 hb_4 dX6_free_20 ?_
    refine lv_if_ne (tgt := 28) hx hb dX6_free_21 (by decide) (fun c_5 => ?_) (fun c_5 => ?_)
    · replace h := h.2 c_5
      refine lv_iconst (v := 0) hx hb dX6_free_28 (by decide) ?_
      refine W.widen (k := 0) (n := 8 * (0)) (by omega) (by omega) ?_
      exact (z_zret hx hb hr hlocks hW rfl ⟨h, (Or.inl rfl)⟩ dX6_free_29)
    · replace h := h.1 c_5
      refine lv_iconst (v := 1) hx hb dX6_free_24 (by decide) ?_
      refine lv_goto (tgt := 29) hx hb dX6_free_25 (by decide) ?_
      refine W.widen (k := 0) (n := 8 * (0)) (by omega) (by omega) ?_
      exact (z_zret hx hb hr hlocks hW rfl ⟨h, (Or.inr rfl)⟩ dX6_free_29)

def wX6_tell (m0 : mS) (p1 : Int32) (p2 : Int32) (Q : mS → Prop) : Prop := (vp_in p1 20 ∧ (wX6_send m0 p2 p1 ((m0 0 p1.toNatClampNeg) + 1) (fun r2 m3 => Q m3)))
theorem hin_X6_tell_6 : ∀ w ∈ u_ws RX6 TX6 24, w ∈ wsX6_tell := by decide +kernel
set_option maxHeartbeats 8000000 in
set_option maxRecDepth 100000 in
theorem cX6_tell_ok (l : Launch) (hlt : l.stackTraces = false) (D : zD) (S0 : Nat) (g : zF) (m0 : mS) (p1 : Int32) (p2 : Int32)  (Q : mS → Prop) (h : wX6_tell m0 p1 p2 Q) : Met l yX6_tell wsX6_tell { frames := 1, cells := 0, slots := 8 * (0), locals := 23 } (zPc D S0 (mR D S0 g m0) [.ref (S0 + 9), .int p1, .int p2]) (va_Qv Q (zB D S0 (fun u => mR D S0 g u)) (zA S0)) (0) (8 * (0)) (zA S0) := by
  refine zMet (cc := cX6_tell) (maxL := 3) (ret := none) (by decide) rfl (Nat.le_of_ble_eq_true rfl) (fun p e s m args below meth c ls hx hb hr hml hown hts hlocks hnm hs hE hW hl => ?_)
  have hin6 := hin_X6_tell_6
  replace hl : lv_has ls 3 [(0, .ref (S0 + 9)), (1, .int p1), (2, .int p2)] := hl
  unfold wX6_tell at h
  refine lv_aload_n hx hb dX6_tell_0 rfl (lv_at hl 0 rfl) ?_
  refine lv_iload_n hx hb dX6_tell_1 rfl (lv_at hl 2 rfl) ?_
  refine lv_iload_n hx hb dX6_tell_2 rfl (lv_at hl 1 rfl) ?_
  refine lv_aload_n hx hb dX6_tell_3 rfl (lv_at hl 0 rfl) ?_
  refine zw_get (C := RX6) (T := TX6) (N := 24) hx hb hts hin6 hown hE.1 hW mC_M rfl 0 (by decide) (hts (.fieldLink RX6 7 "UnionListModel" "home" "[I") (by decide +kernel)) (fun _ h9 => h9) rfl dX6_tell_4 ?_
  refine lv_iload_n hx hb dX6_tell_7 rfl (lv_at hl 1 rfl) ?_
  obtain ⟨hb_1, h⟩ := h
  refine zw_iald hx hb hE.1 hW mC_0 hb_1 dX6_tell_8 ?_
  refine lv_iconst (v := 1) hx hb dX6_tell_9 (by decide) ?_
  refine lv_iadd hx hb dX6_tell_10 ?_
  refine zc_i (va_runV (As := [.int p2, .int p1, .int ((m0 0 p1.toNatClampNeg) + 1)]) (rest := []) ⟨hx, hb, hml, hown, hts⟩ (cX6_send_ok l hlt D S0 g m0 p2 p1 ((m0 0 p1.toNatClampNeg) + 1) _ h) (cwV 3 hts gX6_tell_X6_send rfl rfl rfl (by decide +kernel) ⟨Nat.le_of_ble_eq_true rfl, Nat.le_of_ble_eq_true rfl⟩) (zpreV (q := (RX6, TX6, 24)) hE hs hW mC_M rfl) rfl rfl hl.1 rfl (lv_room (Nat.le_of_ble_eq_true rfl)) dX6_tell_11 ⟨by show _ ≤ 0; omega, by show _ ≤ 8 * (0); omega⟩) hW (fun r2 m3 H locs h hW => ?_)
  refine W.widen (k := 0) (n := 8 * (0)) (by omega) (by omega) ?_
  refine lv_pop hx hb dX6_tell_14 rfl ?_
  refine W.widen (k := 0) (n := 8 * (0)) (by omega) (by omega) ?_
  exact (z_vret hx hb hr hlocks hW h dX6_tell_15)

def wX6_inHandsOf (m0 : mS) (p1 : Int32) (Q : Int32 → mS → Prop) : Prop := (wX6_isCopy m0 p1 (fun r1 m2 => ((r1 = 0 → (wX6_holds m2 1 (fun r4 m5 => ((r4 = 0 → (vp_in p1 20 ∧ Q (m5 3 p1.toNatClampNeg) m5)) ∧ (¬ r4 = 0 → Q (-1) m5))))) ∧ (¬ r1 = 0 → (wX6_holds m2 0 (fun r8 m9 => ((r8 = 0 → (vp_in p1 20 ∧ Q (m9 3 p1.toNatClampNeg) m9)) ∧ (¬ r8 = 0 → Q (-1) m9))))))))
theorem hin_X6_inHandsOf_6 : ∀ w ∈ u_ws RX6 TX6 24, w ∈ wsX6_inHandsOf := by decide +kernel
set_option maxHeartbeats 8000000 in
set_option maxRecDepth 100000 in
theorem cX6_inHandsOf_ok (l : Launch) (hlt : l.stackTraces = false) (D : zD) (S0 : Nat) (g : zF) (m0 : mS) (p1 : Int32)  (Q : Int32 → mS → Prop) (h : wX6_inHandsOf m0 p1 Q) : Met l yX6_inHandsOf wsX6_inHandsOf { frames := 2, cells := 0, slots := 8 * (0), locals := 44 } (zPc D S0 (mR D S0 g m0) [.ref (S0 + 9), .int p1]) (va_Qi Q (zB D S0 (fun u => mR D S0 g u)) (zA S0)) (0) (8 * (0)) (zA S0) := by
  refine zMet (cc := cX6_inHandsOf) (maxL := 2) (ret := (some .int)) (by decide) rfl (Nat.le_of_ble_eq_true rfl) (fun p e s m args below meth c ls hx hb hr hml hown hts hlocks hnm hs hE hW hl => ?_)
  have hin6 := hin_X6_inHandsOf_6
  replace hl : lv_has ls 2 [(0, .ref (S0 + 9)), (1, .int p1)] := hl
  unfold wX6_inHandsOf at h
  refine lv_aload_n hx hb dX6_inHandsOf_0 rfl (lv_at hl 0 rfl) ?_
  refine lv_aload_n hx hb dX6_inHandsOf_1 rfl (lv_at hl 0 rfl) ?_
  refine lv_iload_n hx hb dX6_inHandsOf_2 rfl (lv_at hl 1 rfl) ?_
  refine zc_i (va_runV (As := [.int p1]) (rest := [.ref (S0 + 9)]) ⟨hx, hb, hml, hown, hts⟩ (cX6_isCopy_ok l hlt D S0 g m0 p1 _ h) (cwV 1 hts gX6_inHandsOf_X6_isCopy rfl rfl rfl (by decide +kernel) ⟨Nat.le_of_ble_eq_true rfl, Nat.le_of_ble_eq_true rfl⟩) (zpreV (q := (RX6, TX6, 24)) hE hs hW mC_M rfl) rfl rfl hl.1 rfl (lv_room (Nat.le_of_ble_eq_true rfl)) dX6_inHandsOf_3 ⟨by show _ ≤ 0; omega, by show _ ≤ 8 * (0); omega⟩) hW (fun r1 m2 H locs h hW => ?_)
  obtain ⟨h, hz_r1⟩ := h
  refine W.widen (k := 0) (n := 8 * (0)) (by omega) (by omega) ?_
  refine lv_if_eq (tgt := 13) hx hb dX6_inHandsOf_6 (by decide) (fun c_3 => ?_) (fun c_3 => ?_)
  · replace h := h.1 c_3
    refine lv_iconst (v := 1) hx hb dX6_inHandsOf_13 (by decide) ?_
    refine zc_i (va_runV (As := [.int 1]) (rest := []) ⟨hx, hb, hml, hown, hts⟩ (cX6_holds_ok l hlt D S0 g m2 1 _ h) (cwV 1 hts gX6_inHandsOf_X6_holds rfl rfl rfl (by decide +kernel) ⟨Nat.le_of_ble_eq_true rfl, Nat.le_of_ble_eq_true rfl⟩) (zpreV (q := (RX6, TX6, 24)) hE hs hW mC_M rfl) rfl rfl hl.1 rfl (lv_room (Nat.le_of_ble_eq_true rfl)) dX6_inHandsOf_14 ⟨by show _ ≤ 0; omega, by show _ ≤ 8 * (0); omega⟩) hW (fun r4 m5 H locs h hW => ?_)
    obtain ⟨h, hz_r4⟩ := h
    refine W.widen (k := 0) (n := 8 * (0)) (by omega) (by omega) ?_
    refine lv_if_eq (tgt := 24) hx hb dX6_inHandsOf_17 (by decide) (fun c_6 => ?_) (fun c_6 => ?_)
    · replace h := h.1 c_6
      refine lv_aload_n hx hb dX6_inHandsOf_24 rfl (lv_at hl 0 rfl) ?_
      refine zw_get (C := RX6) (T := TX6) (N := 24) hx hb hts hin6 hown hE.1 hW mC_M rfl 3 (by decide) (hts (.fieldLink RX6 19 "UnionListModel" "hands" "[I") (by decide +kernel)) (fun _ h9 => h9) rfl dX6_inHandsOf_25 ?_
      refine lv_iload_n hx hb dX6_inHandsOf_28 rfl (lv_at hl 1 rfl) ?_
      obtain ⟨hb_7, h⟩ := h
      refine zw_iald hx hb hE.1 hW mC_3 hb_7 dX6_inHandsOf_29 ?_
      refine W.widen (k := 0) (n := 8 * (0)) (by omega) (by omega) ?_
      exact (z_iret hx hb hr hlocks hW h dX6_inHandsOf_30)
    · replace h := h.2 c_6
      refine lv_iconst (v := (-1)) hx hb dX6_inHandsOf_20 (by decide) ?_
      refine lv_goto (tgt := 30) hx hb dX6_inHandsOf_21 (by decide) ?_
      refine W.widen (k := 0) (n := 8 * (0)) (by omega) (by omega) ?_
      exact (z_iret hx hb hr hlocks hW h dX6_inHandsOf_30)
  · replace h := h.2 c_3
    refine lv_iconst (v := 0) hx hb dX6_inHandsOf_9 (by decide) ?_
    refine lv_goto (tgt := 14) hx hb dX6_inHandsOf_10 (by decide) ?_
    refine zc_i (va_runV (As := [.int 0]) (rest := []) ⟨hx, hb, hml, hown, hts⟩ (cX6_holds_ok l hlt D S0 g m2 0 _ h) (cwV 1 hts gX6_inHandsOf_X6_holds rfl rfl rfl (by decide +kernel) ⟨Nat.le_of_ble_eq_true rfl, Nat.le_of_ble_eq_true rfl⟩) (zpreV (q := (RX6, TX6, 24)) hE hs hW mC_M rfl) rfl rfl hl.1 rfl (lv_room (Nat.le_of_ble_eq_true rfl)) dX6_inHandsOf_14 ⟨by show _ ≤ 0; omega, by show _ ≤ 8 * (0); omega⟩) hW (fun r8 m9 H locs h hW => ?_)
    obtain ⟨h, hz_r8⟩ := h
    refine W.widen (k := 0) (n := 8 * (0)) (by omega) (by omega) ?_
    refine lv_if_eq (tgt := 24) hx hb dX6_inHandsOf_17 (by decide) (fun c_10 => ?_) (fun c_10 => ?_)
    · replace h := h.1 c_10
      refine lv_aload_n hx hb dX6_inHandsOf_24 rfl (lv_at hl 0 rfl) ?_
      refine zw_get (C := RX6) (T := TX6) (N := 24) hx hb hts hin6 hown hE.1 hW mC_M rfl 3 (by decide) (hts (.fieldLink RX6 19 "UnionListModel" "hands" "[I") (by decide +kernel)) (fun _ h9 => h9) rfl dX6_inHandsOf_25 ?_
      refine lv_iload_n hx hb dX6_inHandsOf_28 rfl (lv_at hl 1 rfl) ?_
      obtain ⟨hb_11, h⟩ := h
      refine zw_iald hx hb hE.1 hW mC_3 hb_11 dX6_inHandsOf_29 ?_
      refine W.widen (k := 0) (n := 8 * (0)) (by omega) (by omega) ?_
      exact (z_iret hx hb hr hlocks hW h dX6_inHandsOf_30)
    · replace h := h.2 c_10
      refine lv_iconst (v := (-1)) hx hb dX6_inHandsOf_20 (by decide) ?_
      refine lv_goto (tgt := 30) hx hb dX6_inHandsOf_21 (by decide) ?_
      refine W.widen (k := 0) (n := 8 * (0)) (by omega) (by omega) ?_
      exact (z_iret hx hb hr hlocks hW h dX6_inHandsOf_30)

def wX6_isFree (m0 : mS) (p1 : Int32) (Q : Int32 → mS → Prop) : Prop := (wX6_isCopy m0 p1 (fun r1 m2 => ((r1 = 0 → (wX6_holds m2 1 (fun r4 m5 => ((r4 = 0 → (wX6_free m5 p1 (fun r7 m8 => ((r7 = 0 → Q 0 m8) ∧ (¬ r7 = 0 → Q 1 m8))))) ∧ (¬ r4 = 0 → Q 0 m5))))) ∧ (¬ r1 = 0 → (wX6_holds m2 0 (fun r10 m11 => ((r10 = 0 → (wX6_free m11 p1 (fun r13 m14 => ((r13 = 0 → Q 0 m14) ∧ (¬ r13 = 0 → Q 1 m14))))) ∧ (¬ r10 = 0 → Q 0 m11))))))))
set_option maxHeartbeats 8000000 in
set_option maxRecDepth 100000 in
theorem cX6_isFree_ok (l : Launch) (hlt : l.stackTraces = false) (D : zD) (S0 : Nat) (g : zF) (m0 : mS) (p1 : Int32)  (Q : Int32 → mS → Prop) (h : wX6_isFree m0 p1 Q) : Met l yX6_isFree wsX6_isFree { frames := 2, cells := 0, slots := 8 * (0), locals := 44 } (zPc D S0 (mR D S0 g m0) [.ref (S0 + 9), .int p1]) (va_Qi (fun r u => Q r u ∧ (r = 0 ∨ r = 1)) (zB D S0 (fun u => mR D S0 g u)) (zA S0)) (0) (8 * (0)) (zA S0) := by
  refine zMet (cc := cX6_isFree) (maxL := 2) (ret := (some .boolean)) (by decide) rfl (Nat.le_of_ble_eq_true rfl) (fun p e s m args below meth c ls hx hb hr hml hown hts hlocks hnm hs hE hW hl => ?_)
  replace hl : lv_has ls 2 [(0, .ref (S0 + 9)), (1, .int p1)] := hl
  unfold wX6_isFree at h
  refine lv_aload_n hx hb dX6_isFree_0 rfl (lv_at hl 0 rfl) ?_
  refine lv_aload_n hx hb dX6_isFree_1 rfl (lv_at hl 0 rfl) ?_
  refine lv_iload_n hx hb dX6_isFree_2 rfl (lv_at hl 1 rfl) ?_
  refine zc_i (va_runV (As := [.int p1]) (rest := [.ref (S0 + 9)]) ⟨hx, hb, hml, hown, hts⟩ (cX6_isCopy_ok l hlt D S0 g m0 p1 _ h) (cwV 1 hts gX6_isFree_X6_isCopy rfl rfl rfl (by decide +kernel) ⟨Nat.le_of_ble_eq_true rfl, Nat.le_of_ble_eq_true rfl⟩) (zpreV (q := (RX6, TX6, 24)) hE hs hW mC_M rfl) rfl rfl hl.1 rfl (lv_room (Nat.le_of_ble_eq_true rfl)) dX6_isFree_3 ⟨by show _ ≤ 0; omega, by show _ ≤ 8 * (0); omega⟩) hW (fun r1 m2 H locs h hW => ?_)
  obtain ⟨h, hz_r1⟩ := h
  refine W.widen (k := 0) (n := 8 * (0)) (by omega) (by omega) ?_
  refine lv_if_eq (tgt := 13) hx hb dX6_isFree_6 (by decide) (fun c_3 => ?_) (fun c_3 => ?_)
  · replace h := h.1 c_3
    refine lv_iconst (v := 1) hx hb dX6_isFree_13 (by decide) ?_
    refine zc_i (va_runV (As := [.int 1]) (rest := []) ⟨hx, hb, hml, hown, hts⟩ (cX6_holds_ok l hlt D S0 g m2 1 _ h) (cwV 1 hts gX6_isFree_X6_holds rfl rfl rfl (by decide +kernel) ⟨Nat.le_of_ble_eq_true rfl, Nat.le_of_ble_eq_true rfl⟩) (zpreV (q := (RX6, TX6, 24)) hE hs hW mC_M rfl) rfl rfl hl.1 rfl (lv_room (Nat.le_of_ble_eq_true rfl)) dX6_isFree_14 ⟨by show _ ≤ 0; omega, by show _ ≤ 8 * (0); omega⟩) hW (fun r4 m5 H locs h hW => ?_)
    obtain ⟨h, hz_r4⟩ := h
    refine W.widen (k := 0) (n := 8 * (0)) (by omega) (by omega) ?_
    refine lv_if_ne (tgt := 32) hx hb dX6_isFree_17 (by decide) (fun c_6 => ?_) (fun c_6 => ?_)
    · replace h := h.2 c_6
      refine lv_iconst (v := 0) hx hb dX6_isFree_32 (by decide) ?_
      refine W.widen (k := 0) (n := 8 * (0)) (by omega) (by omega) ?_
      exact (z_zret hx hb hr hlocks hW rfl ⟨h, (Or.inl rfl)⟩ dX6_isFree_33)
    · replace h := h.1 c_6
      refine lv_aload_n hx hb dX6_isFree_20 rfl (lv_at hl 0 rfl) ?_
      refine lv_iload_n hx hb dX6_isFree_21 rfl (lv_at hl 1 rfl) ?_
      refine zc_i (va_runV (As := [.int p1]) (rest := []) ⟨hx, hb, hml, hown, hts⟩ (cX6_free_ok l hlt D S0 g m5 p1 _ h) (cwV 1 hts gX6_isFree_X6_free rfl rfl rfl (by decide +kernel) ⟨Nat.le_of_ble_eq_true rfl, Nat.le_of_ble_eq_true rfl⟩) (zpreV (q := (RX6, TX6, 24)) hE hs hW mC_M rfl) rfl rfl hl.1 rfl (lv_room (Nat.le_of_ble_eq_true rfl)) dX6_isFree_22 ⟨by show _ ≤ 0; omega, by show _ ≤ 8 * (0); omega⟩) hW (fun r7 m8 H locs h hW => ?_)
      obtain ⟨h, hz_r7⟩ := h
      refine W.widen (k := 0) (n := 8 * (0)) (by omega) (by omega) ?_
      refine lv_if_eq (tgt := 32) hx hb dX6_isFree_25 (by decide) (fun c_9 => ?_) (fun c_9 => ?_)
      · replace h := h.1 c_9
        refine lv_iconst (v := 0) hx hb dX6_isFree_32 (by decide) ?_
        refine W.widen (k := 0) (n := 8 * (0)) (by omega) (by omega) ?_
        exact (z_zret hx hb hr hlocks hW rfl ⟨h, (Or.inl rfl)⟩ dX6_isFree_33)
      · replace h := h.2 c_9
        refine lv_iconst (v := 1) hx hb dX6_isFree_28 (by decide) ?_
        refine lv_goto (tgt := 33) hx hb dX6_isFree_29 (by decide) ?_
        refine W.widen (k := 0) (n := 8 * (0)) (by omega) (by omega) ?_
        exact (z_zret hx hb hr hlocks hW rfl ⟨h, (Or.inr rfl)⟩ dX6_isFree_33)
  · replace h := h.2 c_3
    refine lv_iconst (v := 0) hx hb dX6_isFree_9 (by decide) ?_
    refine lv_goto (tgt := 14) hx hb dX6_isFree_10 (by decide) ?_
    refine zc_i (va_runV (As := [.int 0]) (rest := []) ⟨hx, hb, hml, hown, hts⟩ (cX6_holds_ok l hlt D S0 g m2 0 _ h) (cwV 1 hts gX6_isFree_X6_holds rfl rfl rfl (by decide +kernel) ⟨Nat.le_of_ble_eq_true rfl, Nat.le_of_ble_eq_true rfl⟩) (zpreV (q := (RX6, TX6, 24)) hE hs hW mC_M rfl) rfl rfl hl.1 rfl (lv_room (Nat.le_of_ble_eq_true rfl)) dX6_isFree_14 ⟨by show _ ≤ 0; omega, by show _ ≤ 8 * (0); omega⟩) hW (fun r10 m11 H locs h hW => ?_)
    obtain ⟨h, hz_r10⟩ := h
    refine W.widen (k := 0) (n := 8 * (0)) (by omega) (by omega) ?_
    refine lv_if_ne (tgt := 32) hx hb dX6_isFree_17 (by decide) (fun c_12 => ?_) (fun c_12 => ?_)
    · replace h := h.2 c_12
      refine lv_iconst (v := 0) hx hb dX6_isFree_32 (by decide) ?_
      refine W.widen (k := 0) (n := 8 * (0)) (by omega) (by omega) ?_
      exact (z_zret hx hb hr hlocks hW rfl ⟨h, (Or.inl rfl)⟩ dX6_isFree_33)
    · replace h := h.1 c_12
      refine lv_aload_n hx hb dX6_isFree_20 rfl (lv_at hl 0 rfl) ?_
      refine lv_iload_n hx hb dX6_isFree_21 rfl (lv_at hl 1 rfl) ?_
      refine zc_i (va_runV (As := [.int p1]) (rest := []) ⟨hx, hb, hml, hown, hts⟩ (cX6_free_ok l hlt D S0 g m11 p1 _ h) (cwV 1 hts gX6_isFree_X6_free rfl rfl rfl (by decide +kernel) ⟨Nat.le_of_ble_eq_true rfl, Nat.le_of_ble_eq_true rfl⟩) (zpreV (q := (RX6, TX6, 24)) hE hs hW mC_M rfl) rfl rfl hl.1 rfl (lv_room (Nat.le_of_ble_eq_true rfl)) dX6_isFree_22 ⟨by show _ ≤ 0; omega, by show _ ≤ 8 * (0); omega⟩) hW (fun r13 m14 H locs h hW => ?_)
      obtain ⟨h, hz_r13⟩ := h
      refine W.widen (k := 0) (n := 8 * (0)) (by omega) (by omega) ?_
      refine lv_if_eq (tgt := 32) hx hb dX6_isFree_25 (by decide) (fun c_15 => ?_) (fun c_15 => ?_)
      · replace h := h.1 c_15
        refine lv_iconst (v := 0) hx hb dX6_isFree_32 (by decide) ?_
        refine W.widen (k := 0) (n := 8 * (0)) (by omega) (by omega) ?_
        exact (z_zret hx hb hr hlocks hW rfl ⟨h, (Or.inl rfl)⟩ dX6_isFree_33)
      · replace h := h.2 c_15
        refine lv_iconst (v := 1) hx hb dX6_isFree_28 (by decide) ?_
        refine lv_goto (tgt := 33) hx hb dX6_isFree_29 (by decide) ?_
        refine W.widen (k := 0) (n := 8 * (0)) (by omega) (by omega) ?_
        exact (z_zret hx hb hr hlocks hW rfl ⟨h, (Or.inr rfl)⟩ dX6_isFree_33)

def wX6_listed (m0 : mS) (p1 : Int32) (Q : Int32 → mS → Prop) : Prop := (wX6_isCopy m0 p1 (fun r1 m2 => ((r1 = 0 → (wX6_holds m2 1 (fun r4 m5 => ((r4 = 0 → (vp_in p1 20 ∧ Q (m5 4 p1.toNatClampNeg) m5)) ∧ (¬ r4 = 0 → Q (-1) m5))))) ∧ (¬ r1 = 0 → (wX6_holds m2 0 (fun r8 m9 => ((r8 = 0 → (vp_in p1 20 ∧ Q (m9 4 p1.toNatClampNeg) m9)) ∧ (¬ r8 = 0 → Q (-1) m9))))))))
theorem hin_X6_listed_6 : ∀ w ∈ u_ws RX6 TX6 24, w ∈ wsX6_listed := by decide +kernel
set_option maxHeartbeats 8000000 in
set_option maxRecDepth 100000 in
theorem cX6_listed_ok (l : Launch) (hlt : l.stackTraces = false) (D : zD) (S0 : Nat) (g : zF) (m0 : mS) (p1 : Int32)  (Q : Int32 → mS → Prop) (h : wX6_listed m0 p1 Q) : Met l yX6_listed wsX6_listed { frames := 2, cells := 0, slots := 8 * (0), locals := 44 } (zPc D S0 (mR D S0 g m0) [.ref (S0 + 9), .int p1]) (va_Qi Q (zB D S0 (fun u => mR D S0 g u)) (zA S0)) (0) (8 * (0)) (zA S0) := by
  refine zMet (cc := cX6_listed) (maxL := 2) (ret := (some .int)) (by decide) rfl (Nat.le_of_ble_eq_true rfl) (fun p e s m args below meth c ls hx hb hr hml hown hts hlocks hnm hs hE hW hl => ?_)
  have hin6 := hin_X6_listed_6
  replace hl : lv_has ls 2 [(0, .ref (S0 + 9)), (1, .int p1)] := hl
  unfold wX6_listed at h
  refine lv_aload_n hx hb dX6_listed_0 rfl (lv_at hl 0 rfl) ?_
  refine lv_aload_n hx hb dX6_listed_1 rfl (lv_at hl 0 rfl) ?_
  refine lv_iload_n hx hb dX6_listed_2 rfl (lv_at hl 1 rfl) ?_
  refine zc_i (va_runV (As := [.int p1]) (rest := [.ref (S0 + 9)]) ⟨hx, hb, hml, hown, hts⟩ (cX6_isCopy_ok l hlt D S0 g m0 p1 _ h) (cwV 1 hts gX6_listed_X6_isCopy rfl rfl rfl (by decide +kernel) ⟨Nat.le_of_ble_eq_true rfl, Nat.le_of_ble_eq_true rfl⟩) (zpreV (q := (RX6, TX6, 24)) hE hs hW mC_M rfl) rfl rfl hl.1 rfl (lv_room (Nat.le_of_ble_eq_true rfl)) dX6_listed_3 ⟨by show _ ≤ 0; omega, by show _ ≤ 8 * (0); omega⟩) hW (fun r1 m2 H locs h hW => ?_)
  obtain ⟨h, hz_r1⟩ := h
  refine W.widen (k := 0) (n := 8 * (0)) (by omega) (by omega) ?_
  refine lv_if_eq (tgt := 13) hx hb dX6_listed_6 (by decide) (fun c_3 => ?_) (fun c_3 => ?_)
  · replace h := h.1 c_3
    refine lv_iconst (v := 1) hx hb dX6_listed_13 (by decide) ?_
    refine zc_i (va_runV (As := [.int 1]) (rest := []) ⟨hx, hb, hml, hown, hts⟩ (cX6_holds_ok l hlt D S0 g m2 1 _ h) (cwV 1 hts gX6_listed_X6_holds rfl rfl rfl (by decide +kernel) ⟨Nat.le_of_ble_eq_true rfl, Nat.le_of_ble_eq_true rfl⟩) (zpreV (q := (RX6, TX6, 24)) hE hs hW mC_M rfl) rfl rfl hl.1 rfl (lv_room (Nat.le_of_ble_eq_true rfl)) dX6_listed_14 ⟨by show _ ≤ 0; omega, by show _ ≤ 8 * (0); omega⟩) hW (fun r4 m5 H locs h hW => ?_)
    obtain ⟨h, hz_r4⟩ := h
    refine W.widen (k := 0) (n := 8 * (0)) (by omega) (by omega) ?_
    refine lv_if_eq (tgt := 24) hx hb dX6_listed_17 (by decide) (fun c_6 => ?_) (fun c_6 => ?_)
    · replace h := h.1 c_6
      refine lv_aload_n hx hb dX6_listed_24 rfl (lv_at hl 0 rfl) ?_
      refine zw_get (C := RX6) (T := TX6) (N := 24) hx hb hts hin6 hown hE.1 hW mC_M rfl 4 (by decide) (hts (.fieldLink RX6 22 "UnionListModel" "knows" "[I") (by decide +kernel)) (fun _ h9 => h9) rfl dX6_listed_25 ?_
      refine lv_iload_n hx hb dX6_listed_28 rfl (lv_at hl 1 rfl) ?_
      obtain ⟨hb_7, h⟩ := h
      refine zw_iald hx hb hE.1 hW mC_4 hb_7 dX6_listed_29 ?_
      refine W.widen (k := 0) (n := 8 * (0)) (by omega) (by omega) ?_
      exact (z_iret hx hb hr hlocks hW h dX6_listed_30)
    · replace h := h.2 c_6
      refine lv_iconst (v := (-1)) hx hb dX6_listed_20 (by decide) ?_
      refine lv_goto (tgt := 30) hx hb dX6_listed_21 (by decide) ?_
      refine W.widen (k := 0) (n := 8 * (0)) (by omega) (by omega) ?_
      exact (z_iret hx hb hr hlocks hW h dX6_listed_30)
  · replace h := h.2 c_3
    refine lv_iconst (v := 0) hx hb dX6_listed_9 (by decide) ?_
    refine lv_goto (tgt := 14) hx hb dX6_listed_10 (by decide) ?_
    refine zc_i (va_runV (As := [.int 0]) (rest := []) ⟨hx, hb, hml, hown, hts⟩ (cX6_holds_ok l hlt D S0 g m2 0 _ h) (cwV 1 hts gX6_listed_X6_holds rfl rfl rfl (by decide +kernel) ⟨Nat.le_of_ble_eq_true rfl, Nat.le_of_ble_eq_true rfl⟩) (zpreV (q := (RX6, TX6, 24)) hE hs hW mC_M rfl) rfl rfl hl.1 rfl (lv_room (Nat.le_of_ble_eq_true rfl)) dX6_listed_14 ⟨by show _ ≤ 0; omega, by show _ ≤ 8 * (0); omega⟩) hW (fun r8 m9 H locs h hW => ?_)
    obtain ⟨h, hz_r8⟩ := h
    refine W.widen (k := 0) (n := 8 * (0)) (by omega) (by omega) ?_
    refine lv_if_eq (tgt := 24) hx hb dX6_listed_17 (by decide) (fun c_10 => ?_) (fun c_10 => ?_)
    · replace h := h.1 c_10
      refine lv_aload_n hx hb dX6_listed_24 rfl (lv_at hl 0 rfl) ?_
      refine zw_get (C := RX6) (T := TX6) (N := 24) hx hb hts hin6 hown hE.1 hW mC_M rfl 4 (by decide) (hts (.fieldLink RX6 22 "UnionListModel" "knows" "[I") (by decide +kernel)) (fun _ h9 => h9) rfl dX6_listed_25 ?_
      refine lv_iload_n hx hb dX6_listed_28 rfl (lv_at hl 1 rfl) ?_
      obtain ⟨hb_11, h⟩ := h
      refine zw_iald hx hb hE.1 hW mC_4 hb_11 dX6_listed_29 ?_
      refine W.widen (k := 0) (n := 8 * (0)) (by omega) (by omega) ?_
      exact (z_iret hx hb hr hlocks hW h dX6_listed_30)
    · replace h := h.2 c_10
      refine lv_iconst (v := (-1)) hx hb dX6_listed_20 (by decide) ?_
      refine lv_goto (tgt := 30) hx hb dX6_listed_21 (by decide) ?_
      refine W.widen (k := 0) (n := 8 * (0)) (by omega) (by omega) ?_
      exact (z_iret hx hb hr hlocks hW h dX6_listed_30)

def wX6_harm (m0 : mS) (p1 : Int32) (Q : Int32 → mS → Prop) : Prop := (wX6_isCopy m0 p1 (fun r1 m2 => ((r1 = 0 → (wX6_holds m2 1 (fun r20 m21 => ((r20 = 0 → (vp_in p1 20 ∧ (vp_in p1 20 ∧ (∀ m25 : mS, m25 = mset m21 5 p1.toNatClampNeg (m21 3 p1.toNatClampNeg) → (vp_in p1 20 ∧ Q (m25 3 p1.toNatClampNeg) m25))))) ∧ (¬ r20 = 0 → Q (-1) m21))))) ∧ (¬ r1 = 0 → (vp_in p1 20 ∧ (((m2 5 p1.toNatClampNeg) < 0 → (wX6_holds m2 0 (fun r6 m7 => ((r6 = 0 → (vp_in p1 20 ∧ (vp_in p1 20 ∧ (∀ m11 : mS, m11 = mset m7 5 p1.toNatClampNeg (m7 3 p1.toNatClampNeg) → (vp_in p1 20 ∧ Q (m11 3 p1.toNatClampNeg) m11))))) ∧ (¬ r6 = 0 → Q (-1) m7))))) ∧ (¬ (m2 5 p1.toNatClampNeg) < 0 → (wX6_holds m2 2 (fun r13 m14 => ((r13 = 0 → (vp_in p1 20 ∧ (vp_in p1 20 ∧ (∀ m18 : mS, m18 = mset m14 5 p1.toNatClampNeg (m14 3 p1.toNatClampNeg) → (vp_in p1 20 ∧ Q (m18 3 p1.toNatClampNeg) m18))))) ∧ (¬ r13 = 0 → Q (-1) m14)))))))))))
theorem hin_X6_harm_6 : ∀ w ∈ u_ws RX6 TX6 24, w ∈ wsX6_harm := by decide +kernel
set_option maxHeartbeats 8000000 in
set_option maxRecDepth 100000 in
theorem cX6_harm_ok (l : Launch) (hlt : l.stackTraces = false) (D : zD) (S0 : Nat) (g : zF) (m0 : mS) (p1 : Int32)  (Q : Int32 → mS → Prop) (h : wX6_harm m0 p1 Q) : Met l yX6_harm wsX6_harm { frames := 2, cells := 0, slots := 8 * (0), locals := 44 } (zPc D S0 (mR D S0 g m0) [.ref (S0 + 9), .int p1]) (va_Qi Q (zB D S0 (fun u => mR D S0 g u)) (zA S0)) (0) (8 * (0)) (zA S0) := by
  refine zMet (cc := cX6_harm) (maxL := 2) (ret := (some .int)) (by decide) rfl (Nat.le_of_ble_eq_true rfl) (fun p e s m args below meth c ls hx hb hr hml hown hts hlocks hnm hs hE hW hl => ?_)
  have hin6 := hin_X6_harm_6
  replace hl : lv_has ls 2 [(0, .ref (S0 + 9)), (1, .int p1)] := hl
  unfold wX6_harm at h
  refine lv_aload_n hx hb dX6_harm_0 rfl (lv_at hl 0 rfl) ?_
  refine lv_aload_n hx hb dX6_harm_1 rfl (lv_at hl 0 rfl) ?_
  refine lv_iload_n hx hb dX6_harm_2 rfl (lv_at hl 1 rfl) ?_
  refine zc_i (va_runV (As := [.int p1]) (rest := [.ref (S0 + 9)]) ⟨hx, hb, hml, hown, hts⟩ (cX6_isCopy_ok l hlt D S0 g m0 p1 _ h) (cwV 1 hts gX6_harm_X6_isCopy rfl rfl rfl (by decide +kernel) ⟨Nat.le_of_ble_eq_true rfl, Nat.le_of_ble_eq_true rfl⟩) (zpreV (q := (RX6, TX6, 24)) hE hs hW mC_M rfl) rfl rfl hl.1 rfl (lv_room (Nat.le_of_ble_eq_true rfl)) dX6_harm_3 ⟨by show _ ≤ 0; omega, by show _ ≤ 8 * (0); omega⟩) hW (fun r1 m2 H locs h hW => ?_)
  obtain ⟨h, hz_r1⟩ := h
  refine W.widen (k := 0) (n := 8 * (0)) (by omega) (by omega) ?_
  refine lv_if_ne (tgt := 13) hx hb dX6_harm_6 (by decide) (fun c_3 => ?_) (fun c_3 => ?_)
  · replace h := h.2 c_3
    refine lv_aload_n hx hb dX6_harm_13 rfl (lv_at hl 0 rfl) ?_
    refine zw_get (C := RX6) (T := TX6) (N := 24) hx hb hts hin6 hown hE.1 hW mC_M rfl 5 (by decide) (hts (.fieldLink RX6 25 "UnionListModel" "harmed" "[I") (by decide +kernel)) (fun _ h9 => h9) rfl dX6_harm_14 ?_
    refine lv_iload_n hx hb dX6_harm_17 rfl (lv_at hl 1 rfl) ?_
    obtain ⟨hb_4, h⟩ := h
    refine zw_iald hx hb hE.1 hW mC_5 hb_4 dX6_harm_18 ?_
    refine lv_if_lt (tgt := 26) hx hb dX6_harm_19 (by decide) (fun c_5 => ?_) (fun c_5 => ?_)
    · replace h := h.1 c_5
      refine lv_iconst (v := 0) hx hb dX6_harm_26 (by decide) ?_
      refine zc_i (va_runV (As := [.int 0]) (rest := []) ⟨hx, hb, hml, hown, hts⟩ (cX6_holds_ok l hlt D S0 g m2 0 _ h) (cwV 1 hts gX6_harm_X6_holds rfl rfl rfl (by decide +kernel) ⟨Nat.le_of_ble_eq_true rfl, Nat.le_of_ble_eq_true rfl⟩) (zpreV (q := (RX6, TX6, 24)) hE hs hW mC_M rfl) rfl rfl hl.1 rfl (lv_room (Nat.le_of_ble_eq_true rfl)) dX6_harm_27 ⟨by show _ ≤ 0; omega, by show _ ≤ 8 * (0); omega⟩) hW (fun r6 m7 H locs h hW => ?_)
      obtain ⟨h, hz_r6⟩ := h
      refine W.widen (k := 0) (n := 8 * (0)) (by omega) (by omega) ?_
      refine lv_if_eq (tgt := 35) hx hb dX6_harm_30 (by decide) (fun c_8 => ?_) (fun c_8 => ?_)
      · replace h := h.1 c_8
        refine lv_aload_n hx hb dX6_harm_35 rfl (lv_at hl 0 rfl) ?_
        refine zw_get (C := RX6) (T := TX6) (N := 24) hx hb hts hin6 hown hE.1 hW mC_M rfl 5 (by decide) (hts (.fieldLink RX6 25 "UnionListModel" "harmed" "[I") (by decide +kernel)) (fun _ h9 => h9) rfl dX6_harm_36 ?_
        refine lv_iload_n hx hb dX6_harm_39 rfl (lv_at hl 1 rfl) ?_
        refine lv_aload_n hx hb dX6_harm_40 rfl (lv_at hl 0 rfl) ?_
        refine zw_get (C := RX6) (T := TX6) (N := 24) hx hb hts hin6 hown hE.1 hW mC_M rfl 3 (by decide) (hts (.fieldLink RX6 19 "UnionListModel" "hands" "[I") (by decide +kernel)) (fun _ h9 => h9) rfl dX6_harm_41 ?_
        refine lv_iload_n hx hb dX6_harm_44 rfl (lv_at hl 1 rfl) ?_
        obtain ⟨hb_9, h⟩ := h
        refine zw_iald hx hb hE.1 hW mC_3 hb_9 dX6_harm_45 ?_
        obtain ⟨hb_10, h⟩ := h
        refine zw_iast hx hb hE.1 hW mC_5 hb_10 dX6_harm_46 mP_5 (fun H locs hW => ?_)
        obtain ⟨m11, em11⟩ : ∃ y, y = mset m7 5 p1.toNatClampNeg (m7 3 p1.toNatClampNeg) := ⟨_, rfl⟩
        rw [← em11] at hW
        replace h := h m11 em11
        refine lv_aload_n hx hb dX6_harm_47 rfl (lv_at hl 0 rfl) ?_
        refine zw_get (C := RX6) (T := TX6) (N := 24) hx hb hts hin6 hown hE.1 hW mC_M rfl 3 (by decide) (hts (.fieldLink RX6 19 "UnionListModel" "hands" "[I") (by decide +kernel)) (fun _ h9 => h9) rfl dX6_harm_48 ?_
        refine lv_iload_n hx hb dX6_harm_51 rfl (lv_at hl 1 rfl) ?_
        obtain ⟨hb_12, h⟩ := h
        refine zw_iald hx hb hE.1 hW mC_3 hb_12 dX6_harm_52 ?_
        refine W.widen (k := 0) (n := 8 * (0)) (by omega) (by omega) ?_
        exact (z_iret hx hb hr hlocks hW h dX6_harm_53)
      · replace h := h.2 c_8
        refine lv_iconst (v := (-1)) hx hb dX6_harm_33 (by decide) ?_
        refine W.widen (k := 0) (n := 8 * (0)) (by omega) (by omega) ?_
        exact (z_iret hx hb hr hlocks hW h dX6_harm_34)
    · replace h := h.2 c_5
      refine lv_iconst (v := 2) hx hb dX6_harm_22 (by decide) ?_
      refine lv_goto (tgt := 27) hx hb dX6_harm_23 (by decide) ?_
      refine zc_i (va_runV (As := [.int 2]) (rest := []) ⟨hx, hb, hml, hown, hts⟩ (cX6_holds_ok l hlt D S0 g m2 2 _ h) (cwV 1 hts gX6_harm_X6_holds rfl rfl rfl (by decide +kernel) ⟨Nat.le_of_ble_eq_true rfl, Nat.le_of_ble_eq_true rfl⟩) (zpreV (q := (RX6, TX6, 24)) hE hs hW mC_M rfl) rfl rfl hl.1 rfl (lv_room (Nat.le_of_ble_eq_true rfl)) dX6_harm_27 ⟨by show _ ≤ 0; omega, by show _ ≤ 8 * (0); omega⟩) hW (fun r13 m14 H locs h hW => ?_)
      obtain ⟨h, hz_r13⟩ := h
      refine W.widen (k := 0) (n := 8 * (0)) (by omega) (by omega) ?_
      refine lv_if_eq (tgt := 35) hx hb dX6_harm_30 (by decide) (fun c_15 => ?_) (fun c_15 => ?_)
      · replace h := h.1 c_15
        refine lv_aload_n hx hb dX6_harm_35 rfl (lv_at hl 0 rfl) ?_
        refine zw_get (C := RX6) (T := TX6) (N := 24) hx hb hts hin6 hown hE.1 hW mC_M rfl 5 (by decide) (hts (.fieldLink RX6 25 "UnionListModel" "harmed" "[I") (by decide +kernel)) (fun _ h9 => h9) rfl dX6_harm_36 ?_
        refine lv_iload_n hx hb dX6_harm_39 rfl (lv_at hl 1 rfl) ?_
        refine lv_aload_n hx hb dX6_harm_40 rfl (lv_at hl 0 rfl) ?_
        refine zw_get (C := RX6) (T := TX6) (N := 24) hx hb hts hin6 hown hE.1 hW mC_M rfl 3 (by decide) (hts (.fieldLink RX6 19 "UnionListModel" "hands" "[I") (by decide +kernel)) (fun _ h9 => h9) rfl dX6_harm_41 ?_
        refine lv_iload_n hx hb dX6_harm_44 rfl (lv_at hl 1 rfl) ?_
        obtain ⟨hb_16, h⟩ := h
        refine zw_iald hx hb hE.1 hW mC_3 hb_16 dX6_harm_45 ?_
        obtain ⟨hb_17, h⟩ := h
        refine zw_iast hx hb hE.1 hW mC_5 hb_17 dX6_harm_46 mP_5 (fun H locs hW => ?_)
        obtain ⟨m18, em18⟩ : ∃ y, y = mset m14 5 p1.toNatClampNeg (m14 3 p1.toNatClampNeg) := ⟨_, rfl⟩
        rw [← em18] at hW
        replace h := h m18 em18
        refine lv_aload_n hx hb dX6_harm_47 rfl (lv_at hl 0 rfl) ?_
        refine zw_get (C := RX6) (T := TX6) (N := 24) hx hb hts hin6 hown hE.1 hW mC_M rfl 3 (by decide) (hts (.fieldLink RX6 19 "UnionListModel" "hands" "[I") (by decide +kernel)) (fun _ h9 => h9) rfl dX6_harm_48 ?_
        refine lv_iload_n hx hb dX6_harm_51 rfl (lv_at hl 1 rfl) ?_
        obtain ⟨hb_19, h⟩ := h
        refine zw_iald hx hb hE.1 hW mC_3 hb_19 dX6_harm_52 ?_
        refine W.widen (k := 0) (n := 8 * (0)) (by omega) (by omega) ?_
        exact (z_iret hx hb hr hlocks hW h dX6_harm_53)
      · replace h := h.2 c_15
        refine lv_iconst (v := (-1)) hx hb dX6_harm_33 (by decide) ?_
        refine W.widen (k := 0) (n := 8 * (0)) (by omega) (by omega) ?_
        exact (z_iret hx hb hr hlocks hW h dX6_harm_34)
  · replace h := h.1 c_3
    refine lv_iconst (v := 1) hx hb dX6_harm_9 (by decide) ?_
    refine lv_goto (tgt := 27) hx hb dX6_harm_10 (by decide) ?_
    refine zc_i (va_runV (As := [.int 1]) (rest := []) ⟨hx, hb, hml, hown, hts⟩ (cX6_holds_ok l hlt D S0 g m2 1 _ h) (cwV 1 hts gX6_harm_X6_holds rfl rfl rfl (by decide +kernel) ⟨Nat.le_of_ble_eq_true rfl, Nat.le_of_ble_eq_true rfl⟩) (zpreV (q := (RX6, TX6, 24)) hE hs hW mC_M rfl) rfl rfl hl.1 rfl (lv_room (Nat.le_of_ble_eq_true rfl)) dX6_harm_27 ⟨by show _ ≤ 0; omega, by show _ ≤ 8 * (0); omega⟩) hW (fun r20 m21 H locs h hW => ?_)
    obtain ⟨h, hz_r20⟩ := h
    refine W.widen (k := 0) (n := 8 * (0)) (by omega) (by omega) ?_
    refine lv_if_eq (tgt := 35) hx hb dX6_harm_30 (by decide) (fun c_22 => ?_) (fun c_22 => ?_)
    · replace h := h.1 c_22
      refine lv_aload_n hx hb dX6_harm_35 rfl (lv_at hl 0 rfl) ?_
      refine zw_get (C := RX6) (T := TX6) (N := 24) hx hb hts hin6 hown hE.1 hW mC_M rfl 5 (by decide) (hts (.fieldLink RX6 25 "UnionListModel" "harmed" "[I") (by decide +kernel)) (fun _ h9 => h9) rfl dX6_harm_36 ?_
      refine lv_iload_n hx hb dX6_harm_39 rfl (lv_at hl 1 rfl) ?_
      refine lv_aload_n hx hb dX6_harm_40 rfl (lv_at hl 0 rfl) ?_
      refine zw_get (C := RX6) (T := TX6) (N := 24) hx hb hts hin6 hown hE.1 hW mC_M rfl 3 (by decide) (hts (.fieldLink RX6 19 "UnionListModel" "hands" "[I") (by decide +kernel)) (fun _ h9 => h9) rfl dX6_harm_41 ?_
      refine lv_iload_n hx hb dX6_harm_44 rfl (lv_at hl 1 rfl) ?_
      obtain ⟨hb_23, h⟩ := h
      refine zw_iald hx hb hE.1 hW mC_3 hb_23 dX6_harm_45 ?_
      obtain ⟨hb_24, h⟩ := h
      refine zw_iast hx hb hE.1 hW mC_5 hb_24 dX6_harm_46 mP_5 (fun H locs hW => ?_)
      obtain ⟨m25, em25⟩ : ∃ y, y = mset m21 5 p1.toNatClampNeg (m21 3 p1.toNatClampNeg) := ⟨_, rfl⟩
      rw [← em25] at hW
      replace h := h m25 em25
      refine lv_aload_n hx hb dX6_harm_47 rfl (lv_at hl 0 rfl) ?_
      refine zw_get (C := RX6) (T := TX6) (N := 24) hx hb hts hin6 hown hE.1 hW mC_M rfl 3 (by decide) (hts (.fieldLink RX6 19 "UnionListModel" "hands" "[I") (by decide +kernel)) (fun _ h9 => h9) rfl dX6_harm_48 ?_
      refine lv_iload_n hx hb dX6_harm_51 rfl (lv_at hl 1 rfl) ?_
      obtain ⟨hb_26, h⟩ := h
      refine zw_iald hx hb hE.1 hW mC_3 hb_26 dX6_harm_52 ?_
      refine W.widen (k := 0) (n := 8 * (0)) (by omega) (by omega) ?_
      exact (z_iret hx hb hr hlocks hW h dX6_harm_53)
    · replace h := h.2 c_22
      refine lv_iconst (v := (-1)) hx hb dX6_harm_33 (by decide) ?_
      refine W.widen (k := 0) (n := 8 * (0)) (by omega) (by omega) ?_
      exact (z_iret hx hb hr hlocks hW h dX6_harm_34)

def wX6_find (m0 : mS) (p1 : Int32) (Q : Int32 → mS → Prop) : Prop := (vp_in p1 20 ∧ (((m0 5 p1.toNatClampNeg) < 0 → Q (-1) m0) ∧ (¬ (m0 5 p1.toNatClampNeg) < 0 → (vp_in p1 20 ∧ (((m0 6 p1.toNatClampNeg) = 1 → Q (-1) m0) ∧ (¬ (m0 6 p1.toNatClampNeg) = 1 → (vp_in p1 20 ∧ (∀ m6 : mS, m6 = mset m0 6 p1.toNatClampNeg 1 → (vp_in p1 20 ∧ (vp_in p1 20 ∧ (((m6 5 p1.toNatClampNeg) = (m6 0 p1.toNatClampNeg) → (vp_in p1 20 ∧ Q (m6 5 p1.toNatClampNeg) m6)) ∧ (¬ (m6 5 p1.toNatClampNeg) = (m6 0 p1.toNatClampNeg) → (vp_in p1 20 ∧ (vp_in p1 20 ∧ (wX6_owe m6 (m6 5 p1.toNatClampNeg) (m6 0 p1.toNatClampNeg) 30 (fun m14 => (vp_in p1 20 ∧ Q (m14 5 p1.toNatClampNeg) m14)))))))))))))))))
theorem hin_X6_find_6 : ∀ w ∈ u_ws RX6 TX6 24, w ∈ wsX6_find := by decide +kernel
set_option maxHeartbeats 8000000 in
set_option maxRecDepth 100000 in
theorem cX6_find_ok (l : Launch) (hlt : l.stackTraces = false) (D : zD) (S0 : Nat) (g : zF) (m0 : mS) (p1 : Int32)  (Q : Int32 → mS → Prop) (h : wX6_find m0 p1 Q) : Met l yX6_find wsX6_find { frames := 1, cells := 0, slots := 8 * (0), locals := 23 } (zPc D S0 (mR D S0 g m0) [.ref (S0 + 9), .int p1]) (va_Qi Q (zB D S0 (fun u => mR D S0 g u)) (zA S0)) (0) (8 * (0)) (zA S0) := by
  refine zMet (cc := cX6_find) (maxL := 2) (ret := (some .int)) (by decide) rfl (Nat.le_of_ble_eq_true rfl) (fun p e s m args below meth c ls hx hb hr hml hown hts hlocks hnm hs hE hW hl => ?_)
  have hin6 := hin_X6_find_6
  replace hl : lv_has ls 2 [(0, .ref (S0 + 9)), (1, .int p1)] := hl
  unfold wX6_find at h
  refine lv_aload_n hx hb dX6_find_0 rfl (lv_at hl 0 rfl) ?_
  refine zw_get (C := RX6) (T := TX6) (N := 24) hx hb hts hin6 hown hE.1 hW mC_M rfl 5 (by decide) (hts (.fieldLink RX6 25 "UnionListModel" "harmed" "[I") (by decide +kernel)) (fun _ h9 => h9) rfl dX6_find_1 ?_
  refine lv_iload_n hx hb dX6_find_4 rfl (lv_at hl 1 rfl) ?_
  obtain ⟨hb_1, h⟩ := h
  refine zw_iald hx hb hE.1 hW mC_5 hb_1 dX6_find_5 ?_
  refine lv_if_lt (tgt := 19) hx hb dX6_find_6 (by decide) (fun c_2 => ?_) (fun c_2 => ?_)
  · replace h := h.1 c_2
    refine lv_iconst (v := (-1)) hx hb dX6_find_19 (by decide) ?_
    refine W.widen (k := 0) (n := 8 * (0)) (by omega) (by omega) ?_
    exact (z_iret hx hb hr hlocks hW h dX6_find_20)
  · replace h := h.2 c_2
    refine lv_aload_n hx hb dX6_find_9 rfl (lv_at hl 0 rfl) ?_
    refine zw_get (C := RX6) (T := TX6) (N := 24) hx hb hts hin6 hown hE.1 hW mC_M rfl 6 (by decide) (hts (.fieldLink RX6 28 "UnionListModel" "seen" "[I") (by decide +kernel)) (fun _ h9 => h9) rfl dX6_find_10 ?_
    refine lv_iload_n hx hb dX6_find_13 rfl (lv_at hl 1 rfl) ?_
    obtain ⟨hb_3, h⟩ := h
    refine zw_iald hx hb hE.1 hW mC_6 hb_3 dX6_find_14 ?_
    refine lv_iconst (v := 1) hx hb dX6_find_15 (by decide) ?_
    refine lv_icmp_ne (tgt := 21) hx hb dX6_find_16 (by decide) (fun c_4 => ?_) (fun c_4 => ?_)
    · replace h := h.2 c_4
      refine lv_aload_n hx hb dX6_find_21 rfl (lv_at hl 0 rfl) ?_
      refine zw_get (C := RX6) (T := TX6) (N := 24) hx hb hts hin6 hown hE.1 hW mC_M rfl 6 (by decide) (hts (.fieldLink RX6 28 "UnionListModel" "seen" "[I") (by decide +kernel)) (fun _ h9 => h9) rfl dX6_find_22 ?_
      refine lv_iload_n hx hb dX6_find_25 rfl (lv_at hl 1 rfl) ?_
      refine lv_iconst (v := 1) hx hb dX6_find_26 (by decide) ?_
      obtain ⟨hb_5, h⟩ := h
      refine zw_iast hx hb hE.1 hW mC_6 hb_5 dX6_find_27 mP_6 (fun H locs hW => ?_)
      obtain ⟨m6, em6⟩ : ∃ y, y = mset m0 6 p1.toNatClampNeg 1 := ⟨_, rfl⟩
      rw [← em6] at hW
      replace h := h m6 em6
      refine lv_aload_n hx hb dX6_find_28 rfl (lv_at hl 0 rfl) ?_
      refine zw_get (C := RX6) (T := TX6) (N := 24) hx hb hts hin6 hown hE.1 hW mC_M rfl 5 (by decide) (hts (.fieldLink RX6 25 "UnionListModel" "harmed" "[I") (by decide +kernel)) (fun _ h9 => h9) rfl dX6_find_29 ?_
      refine lv_iload_n hx hb dX6_find_32 rfl (lv_at hl 1 rfl) ?_
      obtain ⟨hb_7, h⟩ := h
      refine zw_iald hx hb hE.1 hW mC_5 hb_7 dX6_find_33 ?_
      refine lv_aload_n hx hb dX6_find_34 rfl (lv_at hl 0 rfl) ?_
      refine zw_get (C := RX6) (T := TX6) (N := 24) hx hb hts hin6 hown hE.1 hW mC_M rfl 0 (by decide) (hts (.fieldLink RX6 7 "UnionListModel" "home" "[I") (by decide +kernel)) (fun _ h9 => h9) rfl dX6_find_35 ?_
      refine lv_iload_n hx hb dX6_find_38 rfl (lv_at hl 1 rfl) ?_
      obtain ⟨hb_8, h⟩ := h
      refine zw_iald hx hb hE.1 hW mC_0 hb_8 dX6_find_39 ?_
      refine lv_icmp_eq (tgt := 61) hx hb dX6_find_40 (by decide) (fun c_9 => ?_) (fun c_9 => ?_)
      · replace h := h.1 c_9
        refine lv_aload_n hx hb dX6_find_61 rfl (lv_at hl 0 rfl) ?_
        refine zw_get (C := RX6) (T := TX6) (N := 24) hx hb hts hin6 hown hE.1 hW mC_M rfl 5 (by decide) (hts (.fieldLink RX6 25 "UnionListModel" "harmed" "[I") (by decide +kernel)) (fun _ h9 => h9) rfl dX6_find_62 ?_
        refine lv_iload_n hx hb dX6_find_65 rfl (lv_at hl 1 rfl) ?_
        obtain ⟨hb_10, h⟩ := h
        refine zw_iald hx hb hE.1 hW mC_5 hb_10 dX6_find_66 ?_
        refine W.widen (k := 0) (n := 8 * (0)) (by omega) (by omega) ?_
        exact (z_iret hx hb hr hlocks hW h dX6_find_67)
      · replace h := h.2 c_9
        refine lv_aload_n hx hb dX6_find_43 rfl (lv_at hl 0 rfl) ?_
        refine lv_aload_n hx hb dX6_find_44 rfl (lv_at hl 0 rfl) ?_
        refine zw_get (C := RX6) (T := TX6) (N := 24) hx hb hts hin6 hown hE.1 hW mC_M rfl 5 (by decide) (hts (.fieldLink RX6 25 "UnionListModel" "harmed" "[I") (by decide +kernel)) (fun _ h9 => h9) rfl dX6_find_45 ?_
        refine lv_iload_n hx hb dX6_find_48 rfl (lv_at hl 1 rfl) ?_
        obtain ⟨hb_11, h⟩ := h
        refine zw_iald hx hb hE.1 hW mC_5 hb_11 dX6_find_49 ?_
        refine lv_aload_n hx hb dX6_find_50 rfl (lv_at hl 0 rfl) ?_
        refine zw_get (C := RX6) (T := TX6) (N := 24) hx hb hts hin6 hown hE.1 hW mC_M rfl 0 (by decide) (hts (.fieldLink RX6 7 "UnionListModel" "home" "[I") (by decide +kernel)) (fun _ h9 => h9) rfl dX6_find_51 ?_
        refine lv_iload_n hx hb dX6_find_54 rfl (lv_at hl 1 rfl) ?_
        obtain ⟨hb_12, h⟩ := h
        refine zw_iald hx hb hE.1 hW mC_0 hb_12 dX6_find_55 ?_
        refine lv_bipush (v := 30) hx hb dX6_find_56 (by decide) ?_
        refine zc_v (va_runV (As := [.int (m6 5 p1.toNatClampNeg), .int (m6 0 p1.toNatClampNeg), .int 30]) (rest := []) ⟨hx, hb, hml, hown, hts⟩ (cX6_owe_ok l hlt D S0 g m6 (m6 5 p1.toNatClampNeg) (m6 0 p1.toNatClampNeg) 30 _ h) (cwV 3 hts gX6_find_X6_owe rfl rfl rfl (by decide +kernel) ⟨Nat.le_of_ble_eq_true rfl, Nat.le_of_ble_eq_true rfl⟩) (zpreV (q := (RX6, TX6, 24)) hE hs hW mC_M rfl) rfl rfl hl.1 rfl (lv_room (Nat.le_of_ble_eq_true rfl)) dX6_find_58 ⟨by show _ ≤ 0; omega, by show _ ≤ 8 * (0); omega⟩) hW (fun m14 H locs h hW => ?_)
        refine W.widen (k := 0) (n := 8 * (0)) (by omega) (by omega) ?_
        refine lv_aload_n hx hb dX6_find_61 rfl (lv_at hl 0 rfl) ?_
        refine zw_get (C := RX6) (T := TX6) (N := 24) hx hb hts hin6 hown hE.1 hW mC_M rfl 5 (by decide) (hts (.fieldLink RX6 25 "UnionListModel" "harmed" "[I") (by decide +kernel)) (fun _ h9 => h9) rfl dX6_find_62 ?_
        refine lv_iload_n hx hb dX6_find_65 rfl (lv_at hl 1 rfl) ?_
        obtain ⟨hb_15, h⟩ := h
        refine zw_iald hx hb hE.1 hW mC_5 hb_15 dX6_find_66 ?_
        refine W.widen (k := 0) (n := 8 * (0)) (by omega) (by omega) ?_
        exact (z_iret hx hb hr hlocks hW h dX6_find_67)
    · replace h := h.1 c_4
      refine lv_iconst (v := (-1)) hx hb dX6_find_19 (by decide) ?_
      refine W.widen (k := 0) (n := 8 * (0)) (by omega) (by omega) ?_
      exact (z_iret hx hb hr hlocks hW h dX6_find_20)

def wX6_look (m0 : mS) (p1 : Int32) (Q : Int32 → mS → Prop) : Prop := (wX6_isCopy m0 p1 (fun r1 m2 => ((r1 = 0 → (wX6_holds m2 1 (fun r16 m17 => ((r16 = 0 → (wX6_find m17 p1 (fun r19 m20 => Q r19 m20))) ∧ (¬ r16 = 0 → Q (-1) m17))))) ∧ (¬ r1 = 0 → (vp_in p1 20 ∧ ((0 ≤ (m2 2 p1.toNatClampNeg) → (wX6_holds m2 0 (fun r6 m7 => ((r6 = 0 → (wX6_find m7 p1 (fun r9 m10 => Q r9 m10))) ∧ (¬ r6 = 0 → Q (-1) m7))))) ∧ (¬ 0 ≤ (m2 2 p1.toNatClampNeg) → (wX6_holds m2 2 (fun r11 m12 => ((r11 = 0 → (wX6_find m12 p1 (fun r14 m15 => Q r14 m15))) ∧ (¬ r11 = 0 → Q (-1) m12)))))))))))
theorem hin_X6_look_6 : ∀ w ∈ u_ws RX6 TX6 24, w ∈ wsX6_look := by decide +kernel
set_option maxHeartbeats 8000000 in
set_option maxRecDepth 100000 in
theorem cX6_look_ok (l : Launch) (hlt : l.stackTraces = false) (D : zD) (S0 : Nat) (g : zF) (m0 : mS) (p1 : Int32)  (Q : Int32 → mS → Prop) (h : wX6_look m0 p1 Q) : Met l yX6_look wsX6_look { frames := 2, cells := 0, slots := 8 * (0), locals := 44 } (zPc D S0 (mR D S0 g m0) [.ref (S0 + 9), .int p1]) (va_Qi Q (zB D S0 (fun u => mR D S0 g u)) (zA S0)) (0) (8 * (0)) (zA S0) := by
  refine zMet (cc := cX6_look) (maxL := 2) (ret := (some .int)) (by decide) rfl (Nat.le_of_ble_eq_true rfl) (fun p e s m args below meth c ls hx hb hr hml hown hts hlocks hnm hs hE hW hl => ?_)
  have hin6 := hin_X6_look_6
  replace hl : lv_has ls 2 [(0, .ref (S0 + 9)), (1, .int p1)] := hl
  unfold wX6_look at h
  refine lv_aload_n hx hb dX6_look_0 rfl (lv_at hl 0 rfl) ?_
  refine lv_aload_n hx hb dX6_look_1 rfl (lv_at hl 0 rfl) ?_
  refine lv_iload_n hx hb dX6_look_2 rfl (lv_at hl 1 rfl) ?_
  refine zc_i (va_runV (As := [.int p1]) (rest := [.ref (S0 + 9)]) ⟨hx, hb, hml, hown, hts⟩ (cX6_isCopy_ok l hlt D S0 g m0 p1 _ h) (cwV 1 hts gX6_look_X6_isCopy rfl rfl rfl (by decide +kernel) ⟨Nat.le_of_ble_eq_true rfl, Nat.le_of_ble_eq_true rfl⟩) (zpreV (q := (RX6, TX6, 24)) hE hs hW mC_M rfl) rfl rfl hl.1 rfl (lv_room (Nat.le_of_ble_eq_true rfl)) dX6_look_3 ⟨by show _ ≤ 0; omega, by show _ ≤ 8 * (0); omega⟩) hW (fun r1 m2 H locs h hW => ?_)
  obtain ⟨h, hz_r1⟩ := h
  refine W.widen (k := 0) (n := 8 * (0)) (by omega) (by omega) ?_
  refine lv_if_ne (tgt := 13) hx hb dX6_look_6 (by decide) (fun c_3 => ?_) (fun c_3 => ?_)
  · replace h := h.2 c_3
    refine lv_aload_n hx hb dX6_look_13 rfl (lv_at hl 0 rfl) ?_
    refine zw_get (C := RX6) (T := TX6) (N := 24) hx hb hts hin6 hown hE.1 hW mC_M rfl 2 (by decide) (hts (.fieldLink RX6 16 "UnionListModel" "place" "[I") (by decide +kernel)) (fun _ h9 => h9) rfl dX6_look_14 ?_
    refine lv_iload_n hx hb dX6_look_17 rfl (lv_at hl 1 rfl) ?_
    obtain ⟨hb_4, h⟩ := h
    refine zw_iald hx hb hE.1 hW mC_2 hb_4 dX6_look_18 ?_
    refine lv_if_ge (tgt := 26) hx hb dX6_look_19 (by decide) (fun c_5 => ?_) (fun c_5 => ?_)
    · replace h := h.1 c_5
      refine lv_iconst (v := 0) hx hb dX6_look_26 (by decide) ?_
      refine zc_i (va_runV (As := [.int 0]) (rest := []) ⟨hx, hb, hml, hown, hts⟩ (cX6_holds_ok l hlt D S0 g m2 0 _ h) (cwV 1 hts gX6_look_X6_holds rfl rfl rfl (by decide +kernel) ⟨Nat.le_of_ble_eq_true rfl, Nat.le_of_ble_eq_true rfl⟩) (zpreV (q := (RX6, TX6, 24)) hE hs hW mC_M rfl) rfl rfl hl.1 rfl (lv_room (Nat.le_of_ble_eq_true rfl)) dX6_look_27 ⟨by show _ ≤ 0; omega, by show _ ≤ 8 * (0); omega⟩) hW (fun r6 m7 H locs h hW => ?_)
      obtain ⟨h, hz_r6⟩ := h
      refine W.widen (k := 0) (n := 8 * (0)) (by omega) (by omega) ?_
      refine lv_if_eq (tgt := 37) hx hb dX6_look_30 (by decide) (fun c_8 => ?_) (fun c_8 => ?_)
      · replace h := h.1 c_8
        refine lv_aload_n hx hb dX6_look_37 rfl (lv_at hl 0 rfl) ?_
        refine lv_iload_n hx hb dX6_look_38 rfl (lv_at hl 1 rfl) ?_
        refine zc_i (va_runV (As := [.int p1]) (rest := []) ⟨hx, hb, hml, hown, hts⟩ (cX6_find_ok l hlt D S0 g m7 p1 _ h) (cwV 1 hts gX6_look_X6_find rfl rfl rfl (by decide +kernel) ⟨Nat.le_of_ble_eq_true rfl, Nat.le_of_ble_eq_true rfl⟩) (zpreV (q := (RX6, TX6, 24)) hE hs hW mC_M rfl) rfl rfl hl.1 rfl (lv_room (Nat.le_of_ble_eq_true rfl)) dX6_look_39 ⟨by show _ ≤ 0; omega, by show _ ≤ 8 * (0); omega⟩) hW (fun r9 m10 H locs h hW => ?_)
        refine W.widen (k := 0) (n := 8 * (0)) (by omega) (by omega) ?_
        refine W.widen (k := 0) (n := 8 * (0)) (by omega) (by omega) ?_
        exact (z_iret hx hb hr hlocks hW h dX6_look_42)
      · replace h := h.2 c_8
        refine lv_iconst (v := (-1)) hx hb dX6_look_33 (by decide) ?_
        refine lv_goto (tgt := 42) hx hb dX6_look_34 (by decide) ?_
        refine W.widen (k := 0) (n := 8 * (0)) (by omega) (by omega) ?_
        exact (z_iret hx hb hr hlocks hW h dX6_look_42)
    · replace h := h.2 c_5
      refine lv_iconst (v := 2) hx hb dX6_look_22 (by decide) ?_
      refine lv_goto (tgt := 27) hx hb dX6_look_23 (by decide) ?_
      refine zc_i (va_runV (As := [.int 2]) (rest := []) ⟨hx, hb, hml, hown, hts⟩ (cX6_holds_ok l hlt D S0 g m2 2 _ h) (cwV 1 hts gX6_look_X6_holds rfl rfl rfl (by decide +kernel) ⟨Nat.le_of_ble_eq_true rfl, Nat.le_of_ble_eq_true rfl⟩) (zpreV (q := (RX6, TX6, 24)) hE hs hW mC_M rfl) rfl rfl hl.1 rfl (lv_room (Nat.le_of_ble_eq_true rfl)) dX6_look_27 ⟨by show _ ≤ 0; omega, by show _ ≤ 8 * (0); omega⟩) hW (fun r11 m12 H locs h hW => ?_)
      obtain ⟨h, hz_r11⟩ := h
      refine W.widen (k := 0) (n := 8 * (0)) (by omega) (by omega) ?_
      refine lv_if_eq (tgt := 37) hx hb dX6_look_30 (by decide) (fun c_13 => ?_) (fun c_13 => ?_)
      · replace h := h.1 c_13
        refine lv_aload_n hx hb dX6_look_37 rfl (lv_at hl 0 rfl) ?_
        refine lv_iload_n hx hb dX6_look_38 rfl (lv_at hl 1 rfl) ?_
        refine zc_i (va_runV (As := [.int p1]) (rest := []) ⟨hx, hb, hml, hown, hts⟩ (cX6_find_ok l hlt D S0 g m12 p1 _ h) (cwV 1 hts gX6_look_X6_find rfl rfl rfl (by decide +kernel) ⟨Nat.le_of_ble_eq_true rfl, Nat.le_of_ble_eq_true rfl⟩) (zpreV (q := (RX6, TX6, 24)) hE hs hW mC_M rfl) rfl rfl hl.1 rfl (lv_room (Nat.le_of_ble_eq_true rfl)) dX6_look_39 ⟨by show _ ≤ 0; omega, by show _ ≤ 8 * (0); omega⟩) hW (fun r14 m15 H locs h hW => ?_)
        refine W.widen (k := 0) (n := 8 * (0)) (by omega) (by omega) ?_
        refine W.widen (k := 0) (n := 8 * (0)) (by omega) (by omega) ?_
        exact (z_iret hx hb hr hlocks hW h dX6_look_42)
      · replace h := h.2 c_13
        refine lv_iconst (v := (-1)) hx hb dX6_look_33 (by decide) ?_
        refine lv_goto (tgt := 42) hx hb dX6_look_34 (by decide) ?_
        refine W.widen (k := 0) (n := 8 * (0)) (by omega) (by omega) ?_
        exact (z_iret hx hb hr hlocks hW h dX6_look_42)
  · replace h := h.1 c_3
    refine lv_iconst (v := 1) hx hb dX6_look_9 (by decide) ?_
    refine lv_goto (tgt := 27) hx hb dX6_look_10 (by decide) ?_
    refine zc_i (va_runV (As := [.int 1]) (rest := []) ⟨hx, hb, hml, hown, hts⟩ (cX6_holds_ok l hlt D S0 g m2 1 _ h) (cwV 1 hts gX6_look_X6_holds rfl rfl rfl (by decide +kernel) ⟨Nat.le_of_ble_eq_true rfl, Nat.le_of_ble_eq_true rfl⟩) (zpreV (q := (RX6, TX6, 24)) hE hs hW mC_M rfl) rfl rfl hl.1 rfl (lv_room (Nat.le_of_ble_eq_true rfl)) dX6_look_27 ⟨by show _ ≤ 0; omega, by show _ ≤ 8 * (0); omega⟩) hW (fun r16 m17 H locs h hW => ?_)
    obtain ⟨h, hz_r16⟩ := h
    refine W.widen (k := 0) (n := 8 * (0)) (by omega) (by omega) ?_
    refine lv_if_eq (tgt := 37) hx hb dX6_look_30 (by decide) (fun c_18 => ?_) (fun c_18 => ?_)
    · replace h := h.1 c_18
      refine lv_aload_n hx hb dX6_look_37 rfl (lv_at hl 0 rfl) ?_
      refine lv_iload_n hx hb dX6_look_38 rfl (lv_at hl 1 rfl) ?_
      refine zc_i (va_runV (As := [.int p1]) (rest := []) ⟨hx, hb, hml, hown, hts⟩ (cX6_find_ok l hlt D S0 g m17 p1 _ h) (cwV 1 hts gX6_look_X6_find rfl rfl rfl (by decide +kernel) ⟨Nat.le_of_ble_eq_true rfl, Nat.le_of_ble_eq_true rfl⟩) (zpreV (q := (RX6, TX6, 24)) hE hs hW mC_M rfl) rfl rfl hl.1 rfl (lv_room (Nat.le_of_ble_eq_true rfl)) dX6_look_39 ⟨by show _ ≤ 0; omega, by show _ ≤ 8 * (0); omega⟩) hW (fun r19 m20 H locs h hW => ?_)
      refine W.widen (k := 0) (n := 8 * (0)) (by omega) (by omega) ?_
      refine W.widen (k := 0) (n := 8 * (0)) (by omega) (by omega) ?_
      exact (z_iret hx hb hr hlocks hW h dX6_look_42)
    · replace h := h.2 c_18
      refine lv_iconst (v := (-1)) hx hb dX6_look_33 (by decide) ?_
      refine lv_goto (tgt := 42) hx hb dX6_look_34 (by decide) ?_
      refine W.widen (k := 0) (n := 8 * (0)) (by omega) (by omega) ?_
      exact (z_iret hx hb hr hlocks hW h dX6_look_42)
