def wX5_isHouse (S0 : Nat) (k0 : kS) (p1 : Int32) (Q : Int32 → kS → Prop) : Prop := ((p1 < 0 → Q 0 k0) ∧ (¬ p1 < 0 → ((6 ≤ p1 → Q 0 k0) ∧ (¬ 6 ≤ p1 → Q 1 k0))))
set_option maxHeartbeats 8000000 in
set_option maxRecDepth 100000 in
theorem cX5_isHouse_ok (l : Launch) (hlt : l.stackTraces = false) (D : zD) (S0 : Nat) (g : zF) (k0 : kS) (p1 : Int32)  (Q : Int32 → kS → Prop) (h : wX5_isHouse S0 k0 p1 Q) : Met l yX5_isHouse wsX5_isHouse { frames := 0, cells := 0, slots := 8 * (0), locals := 0 } (zPc D S0 (xR D S0 g k0 k0) [.int p1]) (va_Qi (fun r u => Q r u ∧ (r = 0 ∨ r = 1)) (zB D S0 (fun u => xR D S0 g k0 u)) (zA S0)) (0) (8 * (0)) (zA S0) := by
  refine zMet (cc := cX5_isHouse) (maxL := 1) (ret := (some .boolean)) (by decide) rfl (Nat.le_of_ble_eq_true rfl) (fun p e s m args below meth c ls hx hb hr hml hown hts hlocks hnm hs hE hW hl => ?_)
  have hsz := xW_sz hW
  have hs0 : S0 ≤ s.heap.size := hs
  replace hl : lv_has ls 1 [(0, .int p1)] := hl
  unfold wX5_isHouse at h
  refine lv_iload_n hx hb dX5_isHouse_0 rfl (lv_at hl 0 rfl) ?_
  refine lv_if_lt (tgt := 14) hx hb dX5_isHouse_1 (by decide) (fun c_1 => ?_) (fun c_1 => ?_)
  · replace h := h.1 c_1
    refine lv_iconst (v := 0) hx hb dX5_isHouse_14 (by decide) ?_
    refine W.widen (k := 0) (n := 8 * (0)) (by omega) (by omega) ?_
    exact (z_zret hx hb hr hlocks hW rfl ⟨h, (Or.inl rfl)⟩ dX5_isHouse_15)
  · replace h := h.2 c_1
    refine lv_iload_n hx hb dX5_isHouse_4 rfl (lv_at hl 0 rfl) ?_
    refine lv_bipush (v := 6) hx hb dX5_isHouse_5 (by decide) ?_
    refine lv_icmp_ge (tgt := 14) hx hb dX5_isHouse_7 (by decide) (fun c_2 => ?_) (fun c_2 => ?_)
    · replace h := h.1 c_2
      refine lv_iconst (v := 0) hx hb dX5_isHouse_14 (by decide) ?_
      refine W.widen (k := 0) (n := 8 * (0)) (by omega) (by omega) ?_
      exact (z_zret hx hb hr hlocks hW rfl ⟨h, (Or.inl rfl)⟩ dX5_isHouse_15)
    · replace h := h.2 c_2
      refine lv_iconst (v := 1) hx hb dX5_isHouse_10 (by decide) ?_
      refine lv_goto (tgt := 15) hx hb dX5_isHouse_11 (by decide) ?_
      refine W.widen (k := 0) (n := 8 * (0)) (by omega) (by omega) ?_
      exact (z_zret hx hb hr hlocks hW rfl ⟨h, (Or.inr rfl)⟩ dX5_isHouse_15)

def wX5_isTitle (S0 : Nat) (k0 : kS) (p1 : Int32) (Q : Int32 → kS → Prop) : Prop := ((p1 < 0 → Q 0 k0) ∧ (¬ p1 < 0 → ((8 ≤ p1 → Q 0 k0) ∧ (¬ 8 ≤ p1 → Q 1 k0))))
set_option maxHeartbeats 8000000 in
set_option maxRecDepth 100000 in
theorem cX5_isTitle_ok (l : Launch) (hlt : l.stackTraces = false) (D : zD) (S0 : Nat) (g : zF) (k0 : kS) (p1 : Int32)  (Q : Int32 → kS → Prop) (h : wX5_isTitle S0 k0 p1 Q) : Met l yX5_isTitle wsX5_isTitle { frames := 0, cells := 0, slots := 8 * (0), locals := 0 } (zPc D S0 (xR D S0 g k0 k0) [.int p1]) (va_Qi (fun r u => Q r u ∧ (r = 0 ∨ r = 1)) (zB D S0 (fun u => xR D S0 g k0 u)) (zA S0)) (0) (8 * (0)) (zA S0) := by
  refine zMet (cc := cX5_isTitle) (maxL := 1) (ret := (some .boolean)) (by decide) rfl (Nat.le_of_ble_eq_true rfl) (fun p e s m args below meth c ls hx hb hr hml hown hts hlocks hnm hs hE hW hl => ?_)
  have hsz := xW_sz hW
  have hs0 : S0 ≤ s.heap.size := hs
  replace hl : lv_has ls 1 [(0, .int p1)] := hl
  unfold wX5_isTitle at h
  refine lv_iload_n hx hb dX5_isTitle_0 rfl (lv_at hl 0 rfl) ?_
  refine lv_if_lt (tgt := 14) hx hb dX5_isTitle_1 (by decide) (fun c_1 => ?_) (fun c_1 => ?_)
  · replace h := h.1 c_1
    refine lv_iconst (v := 0) hx hb dX5_isTitle_14 (by decide) ?_
    refine W.widen (k := 0) (n := 8 * (0)) (by omega) (by omega) ?_
    exact (z_zret hx hb hr hlocks hW rfl ⟨h, (Or.inl rfl)⟩ dX5_isTitle_15)
  · replace h := h.2 c_1
    refine lv_iload_n hx hb dX5_isTitle_4 rfl (lv_at hl 0 rfl) ?_
    refine lv_bipush (v := 8) hx hb dX5_isTitle_5 (by decide) ?_
    refine lv_icmp_ge (tgt := 14) hx hb dX5_isTitle_7 (by decide) (fun c_2 => ?_) (fun c_2 => ?_)
    · replace h := h.1 c_2
      refine lv_iconst (v := 0) hx hb dX5_isTitle_14 (by decide) ?_
      refine W.widen (k := 0) (n := 8 * (0)) (by omega) (by omega) ?_
      exact (z_zret hx hb hr hlocks hW rfl ⟨h, (Or.inl rfl)⟩ dX5_isTitle_15)
    · replace h := h.2 c_2
      refine lv_iconst (v := 1) hx hb dX5_isTitle_10 (by decide) ?_
      refine lv_goto (tgt := 15) hx hb dX5_isTitle_11 (by decide) ?_
      refine W.widen (k := 0) (n := 8 * (0)) (by omega) (by omega) ?_
      exact (z_zret hx hb hr hlocks hW rfl ⟨h, (Or.inr rfl)⟩ dX5_isTitle_15)

def wX5_way (S0 : Nat) (k0 : kS) (p1 : Int32) (p2 : Int32) (Q : Int32 → kS → Prop) : Prop := Q ((if 0 ≤ (p1 - p2) then (p1 - p2) else 0 - (p1 - p2)) + 1) k0
set_option maxHeartbeats 8000000 in
set_option maxRecDepth 100000 in
theorem cX5_way_ok (l : Launch) (hlt : l.stackTraces = false) (D : zD) (S0 : Nat) (g : zF) (k0 : kS) (p1 : Int32) (p2 : Int32)  (Q : Int32 → kS → Prop) (h : wX5_way S0 k0 p1 p2 Q) : Met l yX5_way wsX5_way { frames := 1, cells := 0, slots := 8 * (0), locals := 22 } (zPc D S0 (xR D S0 g k0 k0) [.int p1, .int p2]) (va_Qi Q (zB D S0 (fun u => xR D S0 g k0 u)) (zA S0)) (0) (8 * (0)) (zA S0) := by
  refine zMet (cc := cX5_way) (maxL := 2) (ret := (some .int)) (by decide) rfl (Nat.le_of_ble_eq_true rfl) (fun p e s m args below meth c ls hx hb hr hml hown hts hlocks hnm hs hE hW hl => ?_)
  have hsz := xW_sz hW
  have hs0 : S0 ≤ s.heap.size := hs
  replace hl : lv_has ls 2 [(0, .int p1), (1, .int p2)] := hl
  unfold wX5_way at h
  refine lv_iload_n hx hb dX5_way_0 rfl (lv_at hl 0 rfl) ?_
  refine lv_iload_n hx hb dX5_way_1 rfl (lv_at hl 1 rfl) ?_
  refine lv_isub hx hb dX5_way_2 ?_
  refine va_mabs hx hb (hml.trans hl.1.symm) hown (hts (.methodLink RX5 200 Lib.Math.abs.name) (by decide +kernel)) (hts (.static Lib.Math.abs.name) (by decide +kernel)) (hts (.initialized "java/lang/Math") (by decide +kernel)) (hts (.code Lib.Math.abs.name Lib.Math.abs.code 1 (some .int)) (by decide +kernel)) (Nat.le_of_ble_eq_true rfl) (Nat.le_of_ble_eq_true rfl) (by show _ ≤ 0; omega) (by show _ ≤ 8 * (0); omega) dX5_way_3 ?_
  refine lv_iconst (v := 1) hx hb dX5_way_6 (by decide) ?_
  refine lv_iadd hx hb dX5_way_7 ?_
  refine W.widen (k := 0) (n := 8 * (0)) (by omega) (by omega) ?_
  exact (z_iret hx hb hr hlocks hW h dX5_way_8)

def wX5_wayToList (S0 : Nat) (k0 : kS) (p1 : Int32) (Q : Int32 → kS → Prop) : Prop := Q (p1 + 1) k0
set_option maxHeartbeats 8000000 in
set_option maxRecDepth 100000 in
theorem cX5_wayToList_ok (l : Launch) (hlt : l.stackTraces = false) (D : zD) (S0 : Nat) (g : zF) (k0 : kS) (p1 : Int32)  (Q : Int32 → kS → Prop) (h : wX5_wayToList S0 k0 p1 Q) : Met l yX5_wayToList wsX5_wayToList { frames := 0, cells := 0, slots := 8 * (0), locals := 0 } (zPc D S0 (xR D S0 g k0 k0) [.int p1]) (va_Qi Q (zB D S0 (fun u => xR D S0 g k0 u)) (zA S0)) (0) (8 * (0)) (zA S0) := by
  refine zMet (cc := cX5_wayToList) (maxL := 1) (ret := (some .int)) (by decide) rfl (Nat.le_of_ble_eq_true rfl) (fun p e s m args below meth c ls hx hb hr hml hown hts hlocks hnm hs hE hW hl => ?_)
  have hsz := xW_sz hW
  have hs0 : S0 ≤ s.heap.size := hs
  replace hl : lv_has ls 1 [(0, .int p1)] := hl
  unfold wX5_wayToList at h
  refine lv_iload_n hx hb dX5_wayToList_0 rfl (lv_at hl 0 rfl) ?_
  refine lv_iconst (v := 1) hx hb dX5_wayToList_1 (by decide) ?_
  refine lv_iadd hx hb dX5_wayToList_2 ?_
  refine W.widen (k := 0) (n := 8 * (0)) (by omega) (by omega) ?_
  exact (z_iret hx hb hr hlocks hW h dX5_wayToList_3)

def wX1_init (S0 : Nat) (k0 : kS) (c0 : Nat) (p1 : Int32) (p2 : Int32) (p3 : Int32) (Q : kS → Prop) : Prop := (∀ k1 : kS, k1 = kset k0 10 c0 p1 → (∀ k2 : kS, k2 = kset k1 11 c0 p2 → (∀ k3 : kS, k3 = kset k2 12 c0 p3 → (∀ k4 : kS, k4 = kset k3 13 c0 p2 → (∀ k5 : kS, k5 = kset k4 14 c0 0 → (∀ k6 : kS, k6 = kset k5 15 c0 (-1) → (∀ k7 : kS, k7 = kset k6 16 c0 (-1) → (∀ k8 : kS, k8 = kset k7 17 c0 0 → Q k8))))))))
theorem hin_X1_init_1 : ∀ w ∈ u_ws RX1 TX1 8, w ∈ wsX1_init := by decide +kernel
set_option maxHeartbeats 8000000 in
set_option maxRecDepth 100000 in
theorem cX1_init_ok (l : Launch) (hlt : l.stackTraces = false) (D : zD) (S0 : Nat) (g : zF) (k0 : kS) (c0 : Nat) (p1 : Int32) (p2 : Int32) (p3 : Int32) (hc0 : k0.2.2 c0 = 1) (Q : kS → Prop) (h : wX1_init S0 k0 c0 p1 p2 p3 Q) : Met l yX1_init wsX1_init { frames := 1, cells := 0, slots := 8 * (0), locals := 20 } (zPc D S0 (xR D S0 g k0 k0) [.ref c0, .int p1, .int p2, .int p3]) (va_Qv Q (zB D S0 (fun u => xR D S0 g k0 u)) (zA S0)) (0) (8 * (0)) (zA S0) := by
  refine zMet (cc := cX1_init) (maxL := 4) (ret := none) (by decide) rfl (Nat.le_of_ble_eq_true rfl) (fun p e s m args below meth c ls hx hb hr hml hown hts hlocks hnm hs hE hW hl => ?_)
  have hsz := xW_sz hW
  have hs0 : S0 ≤ s.heap.size := hs
  have hin1 := hin_X1_init_1
  replace hl : lv_has ls 4 [(0, .ref c0), (1, .int p1), (2, .int p2), (3, .int p3)] := hl
  unfold wX1_init at h
  refine lv_aload_n hx hb dX1_init_0 rfl (lv_at hl 0 rfl) ?_
  refine W.objInit hx hb hown (hts (.methodLink RX1 3 objectInit) (by decide +kernel)) (hts (.instanceMethod objectInit) (by decide +kernel)) (hts (.code objectInit ⟨#[0xb1]⟩ 1 none) (by decide +kernel)) rfl (by rw [hml]; exact hl.1) rfl dX1_init_1 (Nat.le_of_ble_eq_true rfl) (Nat.le_of_ble_eq_true rfl) ?_
  refine W.eq (g2 := F0 m 4 ls []) rfl ?_
  refine lv_aload_n hx hb dX1_init_4 rfl (lv_at hl 0 rfl) ?_
  refine lv_iload_n hx hb dX1_init_5 rfl (lv_at hl 1 rfl) ?_
  refine zw_putF (C := RX1) (T := TX1) (N := 8) hx hb hts hin1 tyX1 tyX1_ok nmX1 hown hE.1 hW (xC_C hc0) rfl 0 (by decide) (hts (.fieldLink RX1 9 "UnionList$Copy" "number" "I") (by decide +kernel)) (fun _ h9 => h9) rfl hnm rfl rfl rfl (Nat.le_of_ble_eq_true rfl) dX1_init_6 (xP_C0 hc0) (fun H locs hW => ?_)
  obtain ⟨k1, ek1⟩ : ∃ y, y = kset k0 10 c0 p1 := ⟨_, rfl⟩
  rw [← ek1] at hW
  replace h := h k1 ek1
  replace hc0 : k1.2.2 c0 = 1 := by rw [ek1]; exact hc0
  refine lv_aload_n hx hb dX1_init_9 rfl (lv_at hl 0 rfl) ?_
  refine lv_iload_n hx hb dX1_init_10 rfl (lv_at hl 2 rfl) ?_
  refine zw_putF (C := RX1) (T := TX1) (N := 8) hx hb hts hin1 tyX1 tyX1_ok nmX1 hown hE.1 hW (xC_C hc0) rfl 1 (by decide) (hts (.fieldLink RX1 15 "UnionList$Copy" "home" "I") (by decide +kernel)) (fun _ h9 => h9) rfl hnm rfl rfl rfl (Nat.le_of_ble_eq_true rfl) dX1_init_11 (xP_C1 hc0) (fun H locs hW => ?_)
  obtain ⟨k2, ek2⟩ : ∃ y, y = kset k1 11 c0 p2 := ⟨_, rfl⟩
  rw [← ek2] at hW
  replace h := h k2 ek2
  replace hc0 : k2.2.2 c0 = 1 := by rw [ek2]; exact hc0
  refine lv_aload_n hx hb dX1_init_14 rfl (lv_at hl 0 rfl) ?_
  refine lv_iload_n hx hb dX1_init_15 rfl (lv_at hl 3 rfl) ?_
  refine zw_putF (C := RX1) (T := TX1) (N := 8) hx hb hts hin1 tyX1 tyX1_ok nmX1 hown hE.1 hW (xC_C hc0) rfl 2 (by decide) (hts (.fieldLink RX1 18 "UnionList$Copy" "title" "I") (by decide +kernel)) (fun _ h9 => h9) rfl hnm rfl rfl rfl (Nat.le_of_ble_eq_true rfl) dX1_init_16 (xP_C2 hc0) (fun H locs hW => ?_)
  obtain ⟨k3, ek3⟩ : ∃ y, y = kset k2 12 c0 p3 := ⟨_, rfl⟩
  rw [← ek3] at hW
  replace h := h k3 ek3
  replace hc0 : k3.2.2 c0 = 1 := by rw [ek3]; exact hc0
  refine lv_aload_n hx hb dX1_init_19 rfl (lv_at hl 0 rfl) ?_
  refine lv_iload_n hx hb dX1_init_20 rfl (lv_at hl 2 rfl) ?_
  refine zw_put (C := RX1) (T := TX1) (N := 8) hx hb hts hin1 tyX1 tyX1_ok nmX1 hown hE.1 hW (xC_C hc0) rfl 3 (by decide) (hts (.fieldLink RX1 21 "UnionList$Copy" "holder" "I") (by decide +kernel)) (fun _ h9 => h9) rfl rfl rfl (Nat.le_of_ble_eq_true rfl) dX1_init_21 (xP_C3 hc0) (fun H locs hW => ?_)
  obtain ⟨k4, ek4⟩ : ∃ y, y = kset k3 13 c0 p2 := ⟨_, rfl⟩
  rw [← ek4] at hW
  replace h := h k4 ek4
  replace hc0 : k4.2.2 c0 = 1 := by rw [ek4]; exact hc0
  refine lv_aload_n hx hb dX1_init_24 rfl (lv_at hl 0 rfl) ?_
  refine lv_iconst (v := 0) hx hb dX1_init_25 (by decide) ?_
  refine zw_put (C := RX1) (T := TX1) (N := 8) hx hb hts hin1 tyX1 tyX1_ok nmX1 hown hE.1 hW (xC_C hc0) rfl 4 (by decide) (hts (.fieldLink RX1 24 "UnionList$Copy" "onItsWay" "Z") (by decide +kernel)) (fun _ h9 => h9) rfl rfl rfl (Nat.le_of_ble_eq_true rfl) dX1_init_26 (xP_C4 hc0) (fun H locs hW => ?_)
  obtain ⟨k5, ek5⟩ : ∃ y, y = kset k4 14 c0 0 := ⟨_, rfl⟩
  rw [← ek5] at hW
  replace h := h k5 ek5
  replace hc0 : k5.2.2 c0 = 1 := by rw [ek5]; exact hc0
  refine lv_aload_n hx hb dX1_init_29 rfl (lv_at hl 0 rfl) ?_
  refine lv_iconst (v := (-1)) hx hb dX1_init_30 (by decide) ?_
  refine zw_put (C := RX1) (T := TX1) (N := 8) hx hb hts hin1 tyX1 tyX1_ok nmX1 hown hE.1 hW (xC_C hc0) rfl 5 (by decide) (hts (.fieldLink RX1 28 "UnionList$Copy" "knownToList" "I") (by decide +kernel)) (fun _ h9 => h9) rfl rfl rfl (Nat.le_of_ble_eq_true rfl) dX1_init_31 (xP_C5 hc0) (fun H locs hW => ?_)
  obtain ⟨k6, ek6⟩ : ∃ y, y = kset k5 15 c0 (-1) := ⟨_, rfl⟩
  rw [← ek6] at hW
  replace h := h k6 ek6
  replace hc0 : k6.2.2 c0 = 1 := by rw [ek6]; exact hc0
  refine lv_aload_n hx hb dX1_init_34 rfl (lv_at hl 0 rfl) ?_
  refine lv_iconst (v := (-1)) hx hb dX1_init_35 (by decide) ?_
  refine zw_put (C := RX1) (T := TX1) (N := 8) hx hb hts hin1 tyX1 tyX1_ok nmX1 hown hE.1 hW (xC_C hc0) rfl 6 (by decide) (hts (.fieldLink RX1 31 "UnionList$Copy" "harmedBy" "I") (by decide +kernel)) (fun _ h9 => h9) rfl rfl rfl (Nat.le_of_ble_eq_true rfl) dX1_init_36 (xP_C6 hc0) (fun H locs hW => ?_)
  obtain ⟨k7, ek7⟩ : ∃ y, y = kset k6 16 c0 (-1) := ⟨_, rfl⟩
  rw [← ek7] at hW
  replace h := h k7 ek7
  replace hc0 : k7.2.2 c0 = 1 := by rw [ek7]; exact hc0
  refine lv_aload_n hx hb dX1_init_39 rfl (lv_at hl 0 rfl) ?_
  refine lv_iconst (v := 0) hx hb dX1_init_40 (by decide) ?_
  refine zw_put (C := RX1) (T := TX1) (N := 8) hx hb hts hin1 tyX1 tyX1_ok nmX1 hown hE.1 hW (xC_C hc0) rfl 7 (by decide) (hts (.fieldLink RX1 34 "UnionList$Copy" "harmKnown" "Z") (by decide +kernel)) (fun _ h9 => h9) rfl rfl rfl (Nat.le_of_ble_eq_true rfl) dX1_init_41 (xP_C7 hc0) (fun H locs hW => ?_)
  obtain ⟨k8, ek8⟩ : ∃ y, y = kset k7 17 c0 0 := ⟨_, rfl⟩
  rw [← ek8] at hW
  replace h := h k8 ek8
  replace hc0 : k8.2.2 c0 = 1 := by rw [ek8]; exact hc0
  refine W.widen (k := 0) (n := 8 * (0)) (by omega) (by omega) ?_
  exact (z_vret hx hb hr hlocks hW h dX1_init_44)

def wX1_isAtHome (S0 : Nat) (k0 : kS) (c0 : Nat) (Q : Int32 → kS → Prop) : Prop := (((k0.1 13 c0) = (k0.1 11 c0) → (((k0.1 14 c0) = 0 → Q 1 k0) ∧ (¬ (k0.1 14 c0) = 0 → Q 0 k0))) ∧ (¬ (k0.1 13 c0) = (k0.1 11 c0) → Q 0 k0))
theorem hin_X1_isAtHome_1 : ∀ w ∈ u_ws RX1 TX1 8, w ∈ wsX1_isAtHome := by decide +kernel
set_option maxHeartbeats 8000000 in
set_option maxRecDepth 100000 in
theorem cX1_isAtHome_ok (l : Launch) (hlt : l.stackTraces = false) (D : zD) (S0 : Nat) (g : zF) (k0 : kS) (c0 : Nat) (hc0 : k0.2.2 c0 = 1) (Q : Int32 → kS → Prop) (h : wX1_isAtHome S0 k0 c0 Q) : Met l yX1_isAtHome wsX1_isAtHome { frames := 0, cells := 0, slots := 8 * (0), locals := 0 } (zPc D S0 (xR D S0 g k0 k0) [.ref c0]) (va_Qi (fun r u => Q r u ∧ (r = 0 ∨ r = 1)) (zB D S0 (fun u => xR D S0 g k0 u)) (zA S0)) (0) (8 * (0)) (zA S0) := by
  refine zMet (cc := cX1_isAtHome) (maxL := 1) (ret := (some .boolean)) (by decide) rfl (Nat.le_of_ble_eq_true rfl) (fun p e s m args below meth c ls hx hb hr hml hown hts hlocks hnm hs hE hW hl => ?_)
  have hsz := xW_sz hW
  have hs0 : S0 ≤ s.heap.size := hs
  have hin1 := hin_X1_isAtHome_1
  replace hl : lv_has ls 1 [(0, .ref c0)] := hl
  unfold wX1_isAtHome at h
  refine lv_aload_n hx hb dX1_isAtHome_0 rfl (lv_at hl 0 rfl) ?_
  refine zw_get (C := RX1) (T := TX1) (N := 8) hx hb hts hin1 hown hE.1 hW (xC_C hc0) rfl 3 (by decide) (hts (.fieldLink RX1 21 "UnionList$Copy" "holder" "I") (by decide +kernel)) (fun _ h9 => h9) rfl dX1_isAtHome_1 ?_
  refine lv_aload_n hx hb dX1_isAtHome_4 rfl (lv_at hl 0 rfl) ?_
  refine zw_get (C := RX1) (T := TX1) (N := 8) hx hb hts hin1 hown hE.1 hW (xC_C hc0) rfl 1 (by decide) (hts (.fieldLink RX1 15 "UnionList$Copy" "home" "I") (by decide +kernel)) (fun _ h9 => h9) rfl dX1_isAtHome_5 ?_
  refine lv_icmp_ne (tgt := 22) hx hb dX1_isAtHome_8 (by decide) (fun c_1 => ?_) (fun c_1 => ?_)
  · replace h := h.2 c_1
    refine lv_iconst (v := 0) hx hb dX1_isAtHome_22 (by decide) ?_
    refine W.widen (k := 0) (n := 8 * (0)) (by omega) (by omega) ?_
    exact (z_zret hx hb hr hlocks hW rfl ⟨h, (Or.inl rfl)⟩ dX1_isAtHome_23)
  · replace h := h.1 c_1
    refine lv_aload_n hx hb dX1_isAtHome_11 rfl (lv_at hl 0 rfl) ?_
    refine zw_get (C := RX1) (T := TX1) (N := 8) hx hb hts hin1 hown hE.1 hW (xC_C hc0) rfl 4 (by decide) (hts (.fieldLink RX1 24 "UnionList$Copy" "onItsWay" "Z") (by decide +kernel)) (fun _ h9 => h9) rfl dX1_isAtHome_12 ?_
    refine lv_if_ne (tgt := 22) hx hb dX1_isAtHome_15 (by decide) (fun c_2 => ?_) (fun c_2 => ?_)
    · replace h := h.2 c_2
      refine lv_iconst (v := 0) hx hb dX1_isAtHome_22 (by decide) ?_
      refine W.widen (k := 0) (n := 8 * (0)) (by omega) (by omega) ?_
      exact (z_zret hx hb hr hlocks hW rfl ⟨h, (Or.inl rfl)⟩ dX1_isAtHome_23)
    · replace h := h.1 c_2
      refine lv_iconst (v := 1) hx hb dX1_isAtHome_18 (by decide) ?_
      refine lv_goto (tgt := 23) hx hb dX1_isAtHome_19 (by decide) ?_
      refine W.widen (k := 0) (n := 8 * (0)) (by omega) (by omega) ?_
      exact (z_zret hx hb hr hlocks hW rfl ⟨h, (Or.inr rfl)⟩ dX1_isAtHome_23)

def wX1_isHarmed (S0 : Nat) (k0 : kS) (c0 : Nat) (Q : Int32 → kS → Prop) : Prop := (((k0.1 16 c0) = (-1) → Q 0 k0) ∧ (¬ (k0.1 16 c0) = (-1) → Q 1 k0))
theorem hin_X1_isHarmed_1 : ∀ w ∈ u_ws RX1 TX1 8, w ∈ wsX1_isHarmed := by decide +kernel
set_option maxHeartbeats 8000000 in
set_option maxRecDepth 100000 in
theorem cX1_isHarmed_ok (l : Launch) (hlt : l.stackTraces = false) (D : zD) (S0 : Nat) (g : zF) (k0 : kS) (c0 : Nat) (hc0 : k0.2.2 c0 = 1) (Q : Int32 → kS → Prop) (h : wX1_isHarmed S0 k0 c0 Q) : Met l yX1_isHarmed wsX1_isHarmed { frames := 0, cells := 0, slots := 8 * (0), locals := 0 } (zPc D S0 (xR D S0 g k0 k0) [.ref c0]) (va_Qi (fun r u => Q r u ∧ (r = 0 ∨ r = 1)) (zB D S0 (fun u => xR D S0 g k0 u)) (zA S0)) (0) (8 * (0)) (zA S0) := by
  refine zMet (cc := cX1_isHarmed) (maxL := 1) (ret := (some .boolean)) (by decide) rfl (Nat.le_of_ble_eq_true rfl) (fun p e s m args below meth c ls hx hb hr hml hown hts hlocks hnm hs hE hW hl => ?_)
  have hsz := xW_sz hW
  have hs0 : S0 ≤ s.heap.size := hs
  have hin1 := hin_X1_isHarmed_1
  replace hl : lv_has ls 1 [(0, .ref c0)] := hl
  unfold wX1_isHarmed at h
  refine lv_aload_n hx hb dX1_isHarmed_0 rfl (lv_at hl 0 rfl) ?_
  refine zw_get (C := RX1) (T := TX1) (N := 8) hx hb hts hin1 hown hE.1 hW (xC_C hc0) rfl 6 (by decide) (hts (.fieldLink RX1 31 "UnionList$Copy" "harmedBy" "I") (by decide +kernel)) (fun _ h9 => h9) rfl dX1_isHarmed_1 ?_
  refine lv_iconst (v := (-1)) hx hb dX1_isHarmed_4 (by decide) ?_
  refine lv_icmp_eq (tgt := 12) hx hb dX1_isHarmed_5 (by decide) (fun c_1 => ?_) (fun c_1 => ?_)
  · replace h := h.1 c_1
    refine lv_iconst (v := 0) hx hb dX1_isHarmed_12 (by decide) ?_
    refine W.widen (k := 0) (n := 8 * (0)) (by omega) (by omega) ?_
    exact (z_zret hx hb hr hlocks hW rfl ⟨h, (Or.inl rfl)⟩ dX1_isHarmed_13)
  · replace h := h.2 c_1
    refine lv_iconst (v := 1) hx hb dX1_isHarmed_8 (by decide) ?_
    refine lv_goto (tgt := 13) hx hb dX1_isHarmed_9 (by decide) ?_
    refine W.widen (k := 0) (n := 8 * (0)) (by omega) (by omega) ?_
    exact (z_zret hx hb hr hlocks hW rfl ⟨h, (Or.inr rfl)⟩ dX1_isHarmed_13)

def wX1_canBeSent (S0 : Nat) (k0 : kS) (c0 : Nat) (Q : Int32 → kS → Prop) : Prop := (wX1_isAtHome S0 k0 c0 (fun r1 k2 => ((r1 = 0 → Q 0 k2) ∧ (¬ r1 = 0 → (((k2.1 17 c0) = 0 → Q 1 k2) ∧ (¬ (k2.1 17 c0) = 0 → Q 0 k2))))))
theorem hin_X1_canBeSent_1 : ∀ w ∈ u_ws RX1 TX1 8, w ∈ wsX1_canBeSent := by decide +kernel
set_option maxHeartbeats 8000000 in
set_option maxRecDepth 100000 in
theorem cX1_canBeSent_ok (l : Launch) (hlt : l.stackTraces = false) (D : zD) (S0 : Nat) (g : zF) (k0 : kS) (c0 : Nat) (hc0 : k0.2.2 c0 = 1) (Q : Int32 → kS → Prop) (h : wX1_canBeSent S0 k0 c0 Q) : Met l yX1_canBeSent wsX1_canBeSent { frames := 1, cells := 0, slots := 8 * (0), locals := 20 } (zPc D S0 (xR D S0 g k0 k0) [.ref c0]) (va_Qi (fun r u => Q r u ∧ (r = 0 ∨ r = 1)) (zB D S0 (fun u => xR D S0 g k0 u)) (zA S0)) (0) (8 * (0)) (zA S0) := by
  refine zMet (cc := cX1_canBeSent) (maxL := 1) (ret := (some .boolean)) (by decide) rfl (Nat.le_of_ble_eq_true rfl) (fun p e s m args below meth c ls hx hb hr hml hown hts hlocks hnm hs hE hW hl => ?_)
  have hsz := xW_sz hW
  have hs0 : S0 ≤ s.heap.size := hs
  have hin1 := hin_X1_canBeSent_1
  replace hl : lv_has ls 1 [(0, .ref c0)] := hl
  unfold wX1_canBeSent at h
  refine lv_aload_n hx hb dX1_canBeSent_0 rfl (lv_at hl 0 rfl) ?_
  have hle := xW_kle hW
  refine zc_i (va_runV (As := []) (rest := []) ⟨hx, hb, hml, hown, hts⟩ (cX1_isAtHome_ok l hlt D S0 g k0 c0 hc0 _ h) (cwV 0 hts gX1_canBeSent_X1_isAtHome rfl rfl rfl (by decide +kernel) ⟨Nat.le_of_ble_eq_true rfl, Nat.le_of_ble_eq_true rfl⟩) (zpreV (q := (RX1, TX1, 8)) hE hs (xW_start hW) (xC_C hc0) rfl) rfl rfl hl.1 rfl (lv_room (Nat.le_of_ble_eq_true rfl)) dX1_canBeSent_1 ⟨by show _ ≤ 0; omega, by show _ ≤ 8 * (0); omega⟩) hW (fun r1 k2 H locs h hW => ?_)
  obtain ⟨h, hz_r1⟩ := h
  replace hc0 := kle_1 (xW_kle hW) hc0
  replace hW := hW.mono (xR_tr hle)
  refine W.widen (k := 0) (n := 8 * (0)) (by omega) (by omega) ?_
  refine lv_if_eq (tgt := 18) hx hb dX1_canBeSent_4 (by decide) (fun c_3 => ?_) (fun c_3 => ?_)
  · replace h := h.1 c_3
    refine lv_iconst (v := 0) hx hb dX1_canBeSent_18 (by decide) ?_
    refine W.widen (k := 0) (n := 8 * (0)) (by omega) (by omega) ?_
    exact (z_zret hx hb hr hlocks hW rfl ⟨h, (Or.inl rfl)⟩ dX1_canBeSent_19)
  · replace h := h.2 c_3
    refine lv_aload_n hx hb dX1_canBeSent_7 rfl (lv_at hl 0 rfl) ?_
    refine zw_get (C := RX1) (T := TX1) (N := 8) hx hb hts hin1 hown hE.1 hW (xC_C hc0) rfl 7 (by decide) (hts (.fieldLink RX1 34 "UnionList$Copy" "harmKnown" "Z") (by decide +kernel)) (fun _ h9 => h9) rfl dX1_canBeSent_8 ?_
    refine lv_if_ne (tgt := 18) hx hb dX1_canBeSent_11 (by decide) (fun c_4 => ?_) (fun c_4 => ?_)
    · replace h := h.2 c_4
      refine lv_iconst (v := 0) hx hb dX1_canBeSent_18 (by decide) ?_
      refine W.widen (k := 0) (n := 8 * (0)) (by omega) (by omega) ?_
      exact (z_zret hx hb hr hlocks hW rfl ⟨h, (Or.inl rfl)⟩ dX1_canBeSent_19)
    · replace h := h.1 c_4
      refine lv_iconst (v := 1) hx hb dX1_canBeSent_14 (by decide) ?_
      refine lv_goto (tgt := 19) hx hb dX1_canBeSent_15 (by decide) ?_
      refine W.widen (k := 0) (n := 8 * (0)) (by omega) (by omega) ?_
      exact (z_zret hx hb hr hlocks hW rfl ⟨h, (Or.inr rfl)⟩ dX1_canBeSent_19)

def wX3_init (S0 : Nat) (k0 : kS) (c0 : Nat) (p1 : Int32) (p2 : Int32) (Q : kS → Prop) : Prop := (∀ k1 : kS, k1 = kset k0 20 c0 p1 → (∀ k2 : kS, k2 = kset k1 21 c0 p2 → (∀ k3 : kS, k3 = kptr k2 22 c0 none → (∀ k4 : kS, k4 = kset k3 23 c0 0 → (∀ k5 : kS, k5 = kset k4 24 c0 0 → (∀ k6 : kS, k6 = kset k5 25 c0 0 → (∀ k7 : kS, k7 = kset k6 26 c0 0 → Q k7)))))))
theorem hin_X3_init_3 : ∀ w ∈ u_ws RX3 TX3 7, w ∈ wsX3_init := by decide +kernel
set_option maxHeartbeats 8000000 in
set_option maxRecDepth 100000 in
theorem cX3_init_ok (l : Launch) (hlt : l.stackTraces = false) (D : zD) (S0 : Nat) (g : zF) (k0 : kS) (c0 : Nat) (p1 : Int32) (p2 : Int32) (hc0 : k0.2.2 c0 = 3) (Q : kS → Prop) (h : wX3_init S0 k0 c0 p1 p2 Q) : Met l yX3_init wsX3_init { frames := 1, cells := 0, slots := 8 * (0), locals := 20 } (zPc D S0 (xR D S0 g k0 k0) [.ref c0, .int p1, .int p2]) (va_Qv Q (zB D S0 (fun u => xR D S0 g k0 u)) (zA S0)) (0) (8 * (0)) (zA S0) := by
  refine zMet (cc := cX3_init) (maxL := 3) (ret := none) (by decide) rfl (Nat.le_of_ble_eq_true rfl) (fun p e s m args below meth c ls hx hb hr hml hown hts hlocks hnm hs hE hW hl => ?_)
  have hsz := xW_sz hW
  have hs0 : S0 ≤ s.heap.size := hs
  have hin3 := hin_X3_init_3
  replace hl : lv_has ls 3 [(0, .ref c0), (1, .int p1), (2, .int p2)] := hl
  unfold wX3_init at h
  refine lv_aload_n hx hb dX3_init_0 rfl (lv_at hl 0 rfl) ?_
  refine W.objInit hx hb hown (hts (.methodLink RX3 3 objectInit) (by decide +kernel)) (hts (.instanceMethod objectInit) (by decide +kernel)) (hts (.code objectInit ⟨#[0xb1]⟩ 1 none) (by decide +kernel)) rfl (by rw [hml]; exact hl.1) rfl dX3_init_1 (Nat.le_of_ble_eq_true rfl) (Nat.le_of_ble_eq_true rfl) ?_
  refine W.eq (g2 := F0 m 4 ls []) rfl ?_
  refine lv_aload_n hx hb dX3_init_4 rfl (lv_at hl 0 rfl) ?_
  refine lv_iload_n hx hb dX3_init_5 rfl (lv_at hl 1 rfl) ?_
  refine zw_putF (C := RX3) (T := TX3) (N := 7) hx hb hts hin3 tyX3 tyX3_ok nmX3 hown hE.1 hW (xC_R hc0) rfl 0 (by decide) (hts (.fieldLink RX3 9 "UnionList$Request" "house" "I") (by decide +kernel)) (fun _ h9 => h9) rfl hnm rfl rfl rfl (Nat.le_of_ble_eq_true rfl) dX3_init_6 (xP_R0 hc0) (fun H locs hW => ?_)
  obtain ⟨k1, ek1⟩ : ∃ y, y = kset k0 20 c0 p1 := ⟨_, rfl⟩
  rw [← ek1] at hW
  replace h := h k1 ek1
  replace hc0 : k1.2.2 c0 = 3 := by rw [ek1]; exact hc0
  refine lv_aload_n hx hb dX3_init_9 rfl (lv_at hl 0 rfl) ?_
  refine lv_iload_n hx hb dX3_init_10 rfl (lv_at hl 2 rfl) ?_
  refine zw_putF (C := RX3) (T := TX3) (N := 7) hx hb hts hin3 tyX3 tyX3_ok nmX3 hown hE.1 hW (xC_R hc0) rfl 1 (by decide) (hts (.fieldLink RX3 15 "UnionList$Request" "title" "I") (by decide +kernel)) (fun _ h9 => h9) rfl hnm rfl rfl rfl (Nat.le_of_ble_eq_true rfl) dX3_init_11 (xP_R1 hc0) (fun H locs hW => ?_)
  obtain ⟨k2, ek2⟩ : ∃ y, y = kset k1 21 c0 p2 := ⟨_, rfl⟩
  rw [← ek2] at hW
  replace h := h k2 ek2
  replace hc0 : k2.2.2 c0 = 3 := by rw [ek2]; exact hc0
  refine lv_aload_n hx hb dX3_init_14 rfl (lv_at hl 0 rfl) ?_
  refine lv_null hx hb dX3_init_15 ?_
  refine zw_put (C := RX3) (T := TX3) (N := 7) hx hb hts hin3 tyX3 tyX3_ok nmX3 hown hE.1 hW (xC_R hc0) rfl 2 (by decide) (hts (.fieldLink RX3 18 "UnionList$Request" "copy" "LUnionList$Copy;") (by decide +kernel)) (fun _ h9 => h9) rfl rfl rfl (Nat.le_of_ble_eq_true rfl) dX3_init_16 (xP_R2 (v := none) hc0 (fun _ h9 => nomatch h9)) (fun H locs hW => ?_)
  obtain ⟨k3, ek3⟩ : ∃ y, y = kptr k2 22 c0 none := ⟨_, rfl⟩
  rw [← ek3] at hW
  replace h := h k3 ek3
  replace hc0 : k3.2.2 c0 = 3 := by rw [ek3]; exact hc0
  refine lv_aload_n hx hb dX3_init_19 rfl (lv_at hl 0 rfl) ?_
  refine lv_iconst (v := 0) hx hb dX3_init_20 (by decide) ?_
  refine zw_put (C := RX3) (T := TX3) (N := 7) hx hb hts hin3 tyX3 tyX3_ok nmX3 hown hE.1 hW (xC_R hc0) rfl 3 (by decide) (hts (.fieldLink RX3 22 "UnionList$Request" "state" "I") (by decide +kernel)) (fun _ h9 => h9) rfl rfl rfl (Nat.le_of_ble_eq_true rfl) dX3_init_21 (xP_R3 hc0) (fun H locs hW => ?_)
  obtain ⟨k4, ek4⟩ : ∃ y, y = kset k3 23 c0 0 := ⟨_, rfl⟩
  rw [← ek4] at hW
  replace h := h k4 ek4
  replace hc0 : k4.2.2 c0 = 3 := by rw [ek4]; exact hc0
  refine lv_aload_n hx hb dX3_init_24 rfl (lv_at hl 0 rfl) ?_
  refine lv_iconst (v := 0) hx hb dX3_init_25 (by decide) ?_
  refine zw_put (C := RX3) (T := TX3) (N := 7) hx hb hts hin3 tyX3 tyX3_ok nmX3 hown hE.1 hW (xC_R hc0) rfl 4 (by decide) (hts (.fieldLink RX3 25 "UnionList$Request" "dueDay" "I") (by decide +kernel)) (fun _ h9 => h9) rfl rfl rfl (Nat.le_of_ble_eq_true rfl) dX3_init_26 (xP_R4 hc0) (fun H locs hW => ?_)
  obtain ⟨k5, ek5⟩ : ∃ y, y = kset k4 24 c0 0 := ⟨_, rfl⟩
  rw [← ek5] at hW
  replace h := h k5 ek5
  replace hc0 : k5.2.2 c0 = 3 := by rw [ek5]; exact hc0
  refine lv_aload_n hx hb dX3_init_29 rfl (lv_at hl 0 rfl) ?_
  refine lv_iconst (v := 0) hx hb dX3_init_30 (by decide) ?_
  refine zw_put (C := RX3) (T := TX3) (N := 7) hx hb hts hin3 tyX3 tyX3_ok nmX3 hown hE.1 hW (xC_R hc0) rfl 5 (by decide) (hts (.fieldLink RX3 28 "UnionList$Request" "recallSent" "Z") (by decide +kernel)) (fun _ h9 => h9) rfl rfl rfl (Nat.le_of_ble_eq_true rfl) dX3_init_31 (xP_R5 hc0) (fun H locs hW => ?_)
  obtain ⟨k6, ek6⟩ : ∃ y, y = kset k5 25 c0 0 := ⟨_, rfl⟩
  rw [← ek6] at hW
  replace h := h k6 ek6
  replace hc0 : k6.2.2 c0 = 3 := by rw [ek6]; exact hc0
  refine lv_aload_n hx hb dX3_init_34 rfl (lv_at hl 0 rfl) ?_
  refine lv_iconst (v := 0) hx hb dX3_init_35 (by decide) ?_
  refine zw_put (C := RX3) (T := TX3) (N := 7) hx hb hts hin3 tyX3 tyX3_ok nmX3 hown hE.1 hW (xC_R hc0) rfl 6 (by decide) (hts (.fieldLink RX3 32 "UnionList$Request" "askedHomes" "I") (by decide +kernel)) (fun _ h9 => h9) rfl rfl rfl (Nat.le_of_ble_eq_true rfl) dX3_init_36 (xP_R6 hc0) (fun H locs hW => ?_)
  obtain ⟨k7, ek7⟩ : ∃ y, y = kset k6 26 c0 0 := ⟨_, rfl⟩
  rw [← ek7] at hW
  replace h := h k7 ek7
  replace hc0 : k7.2.2 c0 = 3 := by rw [ek7]; exact hc0
  refine W.widen (k := 0) (n := 8 * (0)) (by omega) (by omega) ?_
  exact (z_vret hx hb hr hlocks hW h dX3_init_39)

def wX3_markAsked (S0 : Nat) (k0 : kS) (c0 : Nat) (p1 : Int32) (Q : kS → Prop) : Prop := (∀ k1 : kS, k1 = kset k0 26 c0 ((k0.1 26 c0) ||| (1 <<< (p1 &&& 31))) → Q k1)
theorem hin_X3_markAsked_3 : ∀ w ∈ u_ws RX3 TX3 7, w ∈ wsX3_markAsked := by decide +kernel
set_option maxHeartbeats 8000000 in
set_option maxRecDepth 100000 in
theorem cX3_markAsked_ok (l : Launch) (hlt : l.stackTraces = false) (D : zD) (S0 : Nat) (g : zF) (k0 : kS) (c0 : Nat) (p1 : Int32) (hc0 : k0.2.2 c0 = 3) (Q : kS → Prop) (h : wX3_markAsked S0 k0 c0 p1 Q) : Met l yX3_markAsked wsX3_markAsked { frames := 0, cells := 0, slots := 8 * (0), locals := 0 } (zPc D S0 (xR D S0 g k0 k0) [.ref c0, .int p1]) (va_Qv Q (zB D S0 (fun u => xR D S0 g k0 u)) (zA S0)) (0) (8 * (0)) (zA S0) := by
  refine zMet (cc := cX3_markAsked) (maxL := 2) (ret := none) (by decide) rfl (Nat.le_of_ble_eq_true rfl) (fun p e s m args below meth c ls hx hb hr hml hown hts hlocks hnm hs hE hW hl => ?_)
  have hsz := xW_sz hW
  have hs0 : S0 ≤ s.heap.size := hs
  have hin3 := hin_X3_markAsked_3
  replace hl : lv_has ls 2 [(0, .ref c0), (1, .int p1)] := hl
  unfold wX3_markAsked at h
  refine lv_aload_n hx hb dX3_markAsked_0 rfl (lv_at hl 0 rfl) ?_
  refine lv_dup hx hb dX3_markAsked_1 rfl ?_
  refine zw_get (C := RX3) (T := TX3) (N := 7) hx hb hts hin3 hown hE.1 hW (xC_R hc0) rfl 6 (by decide) (hts (.fieldLink RX3 32 "UnionList$Request" "askedHomes" "I") (by decide +kernel)) (fun _ h9 => h9) rfl dX3_markAsked_2 ?_
  refine lv_iconst (v := 1) hx hb dX3_markAsked_5 (by decide) ?_
  refine lv_iload_n hx hb dX3_markAsked_6 rfl (lv_at hl 1 rfl) ?_
  refine lv_ishl hx hb dX3_markAsked_7 ?_
  refine lv_ior hx hb dX3_markAsked_8 ?_
  refine zw_put (C := RX3) (T := TX3) (N := 7) hx hb hts hin3 tyX3 tyX3_ok nmX3 hown hE.1 hW (xC_R hc0) rfl 6 (by decide) (hts (.fieldLink RX3 32 "UnionList$Request" "askedHomes" "I") (by decide +kernel)) (fun _ h9 => h9) rfl rfl rfl (Nat.le_of_ble_eq_true rfl) dX3_markAsked_9 (xP_R6 hc0) (fun H locs hW => ?_)
  obtain ⟨k1, ek1⟩ : ∃ y, y = kset k0 26 c0 ((k0.1 26 c0) ||| (1 <<< (p1 &&& 31))) := ⟨_, rfl⟩
  rw [← ek1] at hW
  replace h := h k1 ek1
  replace hc0 : k1.2.2 c0 = 3 := by rw [ek1]; exact hc0
  refine W.widen (k := 0) (n := 8 * (0)) (by omega) (by omega) ?_
  exact (z_vret hx hb hr hlocks hW h dX3_markAsked_12)

def wX3_mayAskFor (S0 : Nat) (k0 : kS) (c0 : Nat) (c1 : Nat) (Q : Int32 → kS → Prop) : Prop := (((((k0.1 26 c0) >>> ((k0.1 11 c1) &&& 31)) &&& 1) = 1 → (((k0.1 12 c1) = (k0.1 21 c0) → (((k0.1 15 c1) = 1 → (((k0.1 11 c1) = (k0.1 20 c0) → Q 0 k0) ∧ (¬ (k0.1 11 c1) = (k0.1 20 c0) → Q 0 k0))) ∧ (¬ (k0.1 15 c1) = 1 → Q 0 k0))) ∧ (¬ (k0.1 12 c1) = (k0.1 21 c0) → Q 0 k0))) ∧ (¬ (((k0.1 26 c0) >>> ((k0.1 11 c1) &&& 31)) &&& 1) = 1 → (((k0.1 12 c1) = (k0.1 21 c0) → (((k0.1 15 c1) = 1 → (((k0.1 11 c1) = (k0.1 20 c0) → Q 0 k0) ∧ (¬ (k0.1 11 c1) = (k0.1 20 c0) → Q 1 k0))) ∧ (¬ (k0.1 15 c1) = 1 → Q 0 k0))) ∧ (¬ (k0.1 12 c1) = (k0.1 21 c0) → Q 0 k0))))
theorem hin_X3_mayAskFor_1 : ∀ w ∈ u_ws RX1 TX1 8, w ∈ wsX3_mayAskFor := by decide +kernel
theorem hin_X3_mayAskFor_3 : ∀ w ∈ u_ws RX3 TX3 7, w ∈ wsX3_mayAskFor := by decide +kernel
set_option maxHeartbeats 8000000 in
set_option maxRecDepth 100000 in
theorem cX3_mayAskFor_ok (l : Launch) (hlt : l.stackTraces = false) (D : zD) (S0 : Nat) (g : zF) (k0 : kS) (c0 : Nat) (c1 : Nat) (hc0 : k0.2.2 c0 = 3) (hc1 : k0.2.2 c1 = 1) (Q : Int32 → kS → Prop) (h : wX3_mayAskFor S0 k0 c0 c1 Q) : Met l yX3_mayAskFor wsX3_mayAskFor { frames := 0, cells := 0, slots := 8 * (0), locals := 0 } (zPc D S0 (xR D S0 g k0 k0) [.ref c0, .ref c1]) (va_Qi (fun r u => Q r u ∧ (r = 0 ∨ r = 1)) (zB D S0 (fun u => xR D S0 g k0 u)) (zA S0)) (0) (8 * (0)) (zA S0) := by
  refine zMet (cc := cX3_mayAskFor) (maxL := 3) (ret := (some .boolean)) (by decide) rfl (Nat.le_of_ble_eq_true rfl) (fun p e s m args below meth c ls hx hb hr hml hown hts hlocks hnm hs hE hW hl => ?_)
  have hsz := xW_sz hW
  have hs0 : S0 ≤ s.heap.size := hs
  have hin1 := hin_X3_mayAskFor_1
  have hin3 := hin_X3_mayAskFor_3
  replace hl : lv_has ls 3 [(0, .ref c0), (1, .ref c1)] := hl
  unfold wX3_mayAskFor at h
  refine lv_aload_n hx hb dX3_mayAskFor_0 rfl (lv_at hl 0 rfl) ?_
  refine zw_get (C := RX3) (T := TX3) (N := 7) hx hb hts hin3 hown hE.1 hW (xC_R hc0) rfl 6 (by decide) (hts (.fieldLink RX3 32 "UnionList$Request" "askedHomes" "I") (by decide +kernel)) (fun _ h9 => h9) rfl dX3_mayAskFor_1 ?_
  refine lv_aload_n hx hb dX3_mayAskFor_4 rfl (lv_at hl 1 rfl) ?_
  refine zw_get (C := RX1) (T := TX1) (N := 8) hx hb hts hin1 hown hE.1 hW (xC_C hc1) rfl 1 (by decide) (hts (.fieldLink RX3 35 "UnionList$Copy" "home" "I") (by decide +kernel)) (fun _ h9 => h9) rfl dX3_mayAskFor_5 ?_
  refine lv_ishr hx hb dX3_mayAskFor_8 ?_
  refine lv_iconst (v := 1) hx hb dX3_mayAskFor_9 (by decide) ?_
  refine lv_iand hx hb dX3_mayAskFor_10 ?_
  refine lv_iconst (v := 1) hx hb dX3_mayAskFor_11 (by decide) ?_
  refine lv_icmp_ne (tgt := 19) hx hb dX3_mayAskFor_12 (by decide) (fun c_1 => ?_) (fun c_1 => ?_)
  · replace h := h.2 c_1
    refine lv_iconst (v := 0) hx hb dX3_mayAskFor_19 (by decide) ?_
    refine lv_istore_n (lv' := [(2, .int 0), (0, .ref c0), (1, .ref c1)]) hx hb dX3_mayAskFor_20 rfl hl (by decide) rfl (fun ls hl => ?_)
    refine lv_aload_n hx hb dX3_mayAskFor_21 rfl (lv_at hl 2 rfl) ?_
    refine zw_get (C := RX1) (T := TX1) (N := 8) hx hb hts hin1 hown hE.1 hW (xC_C hc1) rfl 2 (by decide) (hts (.fieldLink RX3 40 "UnionList$Copy" "title" "I") (by decide +kernel)) (fun _ h9 => h9) rfl dX3_mayAskFor_22 ?_
    refine lv_aload_n hx hb dX3_mayAskFor_25 rfl (lv_at hl 1 rfl) ?_
    refine zw_get (C := RX3) (T := TX3) (N := 7) hx hb hts hin3 hown hE.1 hW (xC_R hc0) rfl 1 (by decide) (hts (.fieldLink RX3 15 "UnionList$Request" "title" "I") (by decide +kernel)) (fun _ h9 => h9) rfl dX3_mayAskFor_26 ?_
    refine lv_icmp_ne (tgt := 59) hx hb dX3_mayAskFor_29 (by decide) (fun c_2 => ?_) (fun c_2 => ?_)
    · replace h := h.2 c_2
      refine lv_iconst (v := 0) hx hb dX3_mayAskFor_59 (by decide) ?_
      refine W.widen (k := 0) (n := 8 * (0)) (by omega) (by omega) ?_
      exact (z_zret hx hb hr hlocks hW rfl ⟨h, (Or.inl rfl)⟩ dX3_mayAskFor_60)
    · replace h := h.1 c_2
      refine lv_aload_n hx hb dX3_mayAskFor_32 rfl (lv_at hl 2 rfl) ?_
      refine zw_get (C := RX1) (T := TX1) (N := 8) hx hb hts hin1 hown hE.1 hW (xC_C hc1) rfl 5 (by decide) (hts (.fieldLink RX3 41 "UnionList$Copy" "knownToList" "I") (by decide +kernel)) (fun _ h9 => h9) rfl dX3_mayAskFor_33 ?_
      refine lv_iconst (v := 1) hx hb dX3_mayAskFor_36 (by decide) ?_
      refine lv_icmp_ne (tgt := 59) hx hb dX3_mayAskFor_37 (by decide) (fun c_3 => ?_) (fun c_3 => ?_)
      · replace h := h.2 c_3
        refine lv_iconst (v := 0) hx hb dX3_mayAskFor_59 (by decide) ?_
        refine W.widen (k := 0) (n := 8 * (0)) (by omega) (by omega) ?_
        exact (z_zret hx hb hr hlocks hW rfl ⟨h, (Or.inl rfl)⟩ dX3_mayAskFor_60)
      · replace h := h.1 c_3
        refine lv_aload_n hx hb dX3_mayAskFor_40 rfl (lv_at hl 2 rfl) ?_
        refine zw_get (C := RX1) (T := TX1) (N := 8) hx hb hts hin1 hown hE.1 hW (xC_C hc1) rfl 1 (by decide) (hts (.fieldLink RX3 35 "UnionList$Copy" "home" "I") (by decide +kernel)) (fun _ h9 => h9) rfl dX3_mayAskFor_41 ?_
        refine lv_aload_n hx hb dX3_mayAskFor_44 rfl (lv_at hl 1 rfl) ?_
        refine zw_get (C := RX3) (T := TX3) (N := 7) hx hb hts hin3 hown hE.1 hW (xC_R hc0) rfl 0 (by decide) (hts (.fieldLink RX3 9 "UnionList$Request" "house" "I") (by decide +kernel)) (fun _ h9 => h9) rfl dX3_mayAskFor_45 ?_
        refine lv_icmp_eq (tgt := 59) hx hb dX3_mayAskFor_48 (by decide) (fun c_4 => ?_) (fun c_4 => ?_)
        · replace h := h.1 c_4
          refine lv_iconst (v := 0) hx hb dX3_mayAskFor_59 (by decide) ?_
          refine W.widen (k := 0) (n := 8 * (0)) (by omega) (by omega) ?_
          exact (z_zret hx hb hr hlocks hW rfl ⟨h, (Or.inl rfl)⟩ dX3_mayAskFor_60)
        · replace h := h.2 c_4
          refine lv_iload_n hx hb dX3_mayAskFor_51 rfl (lv_at hl 0 rfl) ?_
          refine lv_if_ne (tgt := 59) hx hb dX3_mayAskFor_52 (by decide) (fun h9 => absurd (by decide) h9) (fun _ => ?_)
          refine lv_iconst (v := 1) hx hb dX3_mayAskFor_55 (by decide) ?_
          refine lv_goto (tgt := 60) hx hb dX3_mayAskFor_56 (by decide) ?_
          refine W.widen (k := 0) (n := 8 * (0)) (by omega) (by omega) ?_
          exact (z_zret hx hb hr hlocks hW rfl ⟨h, (Or.inr rfl)⟩ dX3_mayAskFor_60)
  · replace h := h.1 c_1
    refine lv_iconst (v := 1) hx hb dX3_mayAskFor_15 (by decide) ?_
    refine lv_goto (tgt := 20) hx hb dX3_mayAskFor_16 (by decide) ?_
    refine lv_istore_n (lv' := [(2, .int 1), (0, .ref c0), (1, .ref c1)]) hx hb dX3_mayAskFor_20 rfl hl (by decide) rfl (fun ls hl => ?_)
    refine lv_aload_n hx hb dX3_mayAskFor_21 rfl (lv_at hl 2 rfl) ?_
    refine zw_get (C := RX1) (T := TX1) (N := 8) hx hb hts hin1 hown hE.1 hW (xC_C hc1) rfl 2 (by decide) (hts (.fieldLink RX3 40 "UnionList$Copy" "title" "I") (by decide +kernel)) (fun _ h9 => h9) rfl dX3_mayAskFor_22 ?_
    refine lv_aload_n hx hb dX3_mayAskFor_25 rfl (lv_at hl 1 rfl) ?_
    refine zw_get (C := RX3) (T := TX3) (N := 7) hx hb hts hin3 hown hE.1 hW (xC_R hc0) rfl 1 (by decide) (hts (.fieldLink RX3 15 "UnionList$Request" "title" "I") (by decide +kernel)) (fun _ h9 => h9) rfl dX3_mayAskFor_26 ?_
    refine lv_icmp_ne (tgt := 59) hx hb dX3_mayAskFor_29 (by decide) (fun c_5 => ?_) (fun c_5 => ?_)
    · replace h := h.2 c_5
      refine lv_iconst (v := 0) hx hb dX3_mayAskFor_59 (by decide) ?_
      refine W.widen (k := 0) (n := 8 * (0)) (by omega) (by omega) ?_
      exact (z_zret hx hb hr hlocks hW rfl ⟨h, (Or.inl rfl)⟩ dX3_mayAskFor_60)
    · replace h := h.1 c_5
      refine lv_aload_n hx hb dX3_mayAskFor_32 rfl (lv_at hl 2 rfl) ?_
      refine zw_get (C := RX1) (T := TX1) (N := 8) hx hb hts hin1 hown hE.1 hW (xC_C hc1) rfl 5 (by decide) (hts (.fieldLink RX3 41 "UnionList$Copy" "knownToList" "I") (by decide +kernel)) (fun _ h9 => h9) rfl dX3_mayAskFor_33 ?_
      refine lv_iconst (v := 1) hx hb dX3_mayAskFor_36 (by decide) ?_
      refine lv_icmp_ne (tgt := 59) hx hb dX3_mayAskFor_37 (by decide) (fun c_6 => ?_) (fun c_6 => ?_)
      · replace h := h.2 c_6
        refine lv_iconst (v := 0) hx hb dX3_mayAskFor_59 (by decide) ?_
        refine W.widen (k := 0) (n := 8 * (0)) (by omega) (by omega) ?_
        exact (z_zret hx hb hr hlocks hW rfl ⟨h, (Or.inl rfl)⟩ dX3_mayAskFor_60)
      · replace h := h.1 c_6
        refine lv_aload_n hx hb dX3_mayAskFor_40 rfl (lv_at hl 2 rfl) ?_
        refine zw_get (C := RX1) (T := TX1) (N := 8) hx hb hts hin1 hown hE.1 hW (xC_C hc1) rfl 1 (by decide) (hts (.fieldLink RX3 35 "UnionList$Copy" "home" "I") (by decide +kernel)) (fun _ h9 => h9) rfl dX3_mayAskFor_41 ?_
        refine lv_aload_n hx hb dX3_mayAskFor_44 rfl (lv_at hl 1 rfl) ?_
        refine zw_get (C := RX3) (T := TX3) (N := 7) hx hb hts hin3 hown hE.1 hW (xC_R hc0) rfl 0 (by decide) (hts (.fieldLink RX3 9 "UnionList$Request" "house" "I") (by decide +kernel)) (fun _ h9 => h9) rfl dX3_mayAskFor_45 ?_
        refine lv_icmp_eq (tgt := 59) hx hb dX3_mayAskFor_48 (by decide) (fun c_7 => ?_) (fun c_7 => ?_)
        · replace h := h.1 c_7
          refine lv_iconst (v := 0) hx hb dX3_mayAskFor_59 (by decide) ?_
          refine W.widen (k := 0) (n := 8 * (0)) (by omega) (by omega) ?_
          exact (z_zret hx hb hr hlocks hW rfl ⟨h, (Or.inl rfl)⟩ dX3_mayAskFor_60)
        · replace h := h.2 c_7
          refine lv_iload_n hx hb dX3_mayAskFor_51 rfl (lv_at hl 0 rfl) ?_
          refine lv_if_ne (tgt := 59) hx hb dX3_mayAskFor_52 (by decide) (fun _ => ?_) (fun h9 => absurd h9 (by decide))
          refine lv_iconst (v := 0) hx hb dX3_mayAskFor_59 (by decide) ?_
          refine W.widen (k := 0) (n := 8 * (0)) (by omega) (by omega) ?_
          exact (z_zret hx hb hr hlocks hW rfl ⟨h, (Or.inl rfl)⟩ dX3_mayAskFor_60)

def wX4_init (S0 : Nat) (k0 : kS) (c0 : Nat) (p1 : Int32) (p2 : Int32) (c3 : Nat) (a4 : Option Nat) (Q : kS → Prop) : Prop := ((a4 = none → (∀ k3 : kS, k3 = kset k0 30 c0 p1 → (∀ k4 : kS, k4 = kset k3 31 c0 p2 → (∀ k5 : kS, k5 = kptr k4 32 c0 (some c3) → (∀ k6 : kS, k6 = kptr k5 33 c0 none → Q k6))))) ∧ (∀ o1 : Nat, a4 = some o1 → (∀ k7 : kS, k7 = kset k0 30 c0 p1 → (∀ k8 : kS, k8 = kset k7 31 c0 p2 → (∀ k9 : kS, k9 = kptr k8 32 c0 (some c3) → (∀ k10 : kS, k10 = kptr k9 33 c0 (some o1) → Q k10))))))
theorem hin_X4_init_4 : ∀ w ∈ u_ws RX4 TX4 4, w ∈ wsX4_init := by decide +kernel
set_option maxHeartbeats 8000000 in
set_option maxRecDepth 100000 in
theorem cX4_init_ok (l : Launch) (hlt : l.stackTraces = false) (D : zD) (S0 : Nat) (g : zF) (k0 : kS) (c0 : Nat) (p1 : Int32) (p2 : Int32) (c3 : Nat) (a4 : Option Nat) (hc0 : k0.2.2 c0 = 4) (hc3 : k0.2.2 c3 = 1) (ha4 : ∀ b, a4 = some b → k0.2.2 b = 3) (Q : kS → Prop) (h : wX4_init S0 k0 c0 p1 p2 c3 a4 Q) : Met l yX4_init wsX4_init { frames := 1, cells := 0, slots := 8 * (0), locals := 20 } (zPc D S0 (xR D S0 g k0 k0) [.ref c0, .int p1, .int p2, .ref c3, va_rf a4]) (va_Qv Q (zB D S0 (fun u => xR D S0 g k0 u)) (zA S0)) (0) (8 * (0)) (zA S0) := by
  rcases a4 with _ | o1
  · refine zMet (cc := cX4_init) (maxL := 5) (ret := none) (by decide) rfl (Nat.le_of_ble_eq_true rfl) (fun p e s m args below meth c ls hx hb hr hml hown hts hlocks hnm hs hE hW hl => ?_)
    have hsz := xW_sz hW
    have hs0 : S0 ≤ s.heap.size := hs
    have hin4 := hin_X4_init_4
    replace hl : lv_has ls 5 [(0, .ref c0), (1, .int p1), (2, .int p2), (3, .ref c3), (4, .null)] := hl
    unfold wX4_init at h
    replace h := h.1 rfl
    refine lv_aload_n hx hb dX4_init_0 rfl (lv_at hl 0 rfl) ?_
    refine W.objInit hx hb hown (hts (.methodLink RX4 1 objectInit) (by decide +kernel)) (hts (.instanceMethod objectInit) (by decide +kernel)) (hts (.code objectInit ⟨#[0xb1]⟩ 1 none) (by decide +kernel)) rfl (by rw [hml]; exact hl.1) rfl dX4_init_1 (Nat.le_of_ble_eq_true rfl) (Nat.le_of_ble_eq_true rfl) ?_
    refine W.eq (g2 := F0 m 4 ls []) rfl ?_
    refine lv_aload_n hx hb dX4_init_4 rfl (lv_at hl 0 rfl) ?_
    refine lv_iload_n hx hb dX4_init_5 rfl (lv_at hl 1 rfl) ?_
    refine zw_putF (C := RX4) (T := TX4) (N := 4) hx hb hts hin4 tyX4 tyX4_ok nmX4 hown hE.1 hW (xC_S hc0) rfl 0 (by decide) (hts (.fieldLink RX4 7 "UnionList$Sent" "kind" "I") (by decide +kernel)) (fun _ h9 => h9) rfl hnm rfl rfl rfl (Nat.le_of_ble_eq_true rfl) dX4_init_6 (xP_S0 hc0) (fun H locs hW => ?_)
    obtain ⟨k3, ek3⟩ : ∃ y, y = kset k0 30 c0 p1 := ⟨_, rfl⟩
    rw [← ek3] at hW
    replace h := h k3 ek3
    replace hc0 : k3.2.2 c0 = 4 := by rw [ek3]; exact hc0
    replace hc3 : k3.2.2 c3 = 1 := by rw [ek3]; exact hc3
    refine lv_aload_n hx hb dX4_init_9 rfl (lv_at hl 0 rfl) ?_
    refine lv_iload_n hx hb dX4_init_10 rfl (lv_at hl 2 rfl) ?_
    refine zw_putF (C := RX4) (T := TX4) (N := 4) hx hb hts hin4 tyX4 tyX4_ok nmX4 hown hE.1 hW (xC_S hc0) rfl 1 (by decide) (hts (.fieldLink RX4 13 "UnionList$Sent" "arrival" "I") (by decide +kernel)) (fun _ h9 => h9) rfl hnm rfl rfl rfl (Nat.le_of_ble_eq_true rfl) dX4_init_11 (xP_S1 hc0) (fun H locs hW => ?_)
    obtain ⟨k4, ek4⟩ : ∃ y, y = kset k3 31 c0 p2 := ⟨_, rfl⟩
    rw [← ek4] at hW
    replace h := h k4 ek4
    replace hc0 : k4.2.2 c0 = 4 := by rw [ek4]; exact hc0
    replace hc3 : k4.2.2 c3 = 1 := by rw [ek4]; exact hc3
    refine lv_aload_n hx hb dX4_init_14 rfl (lv_at hl 0 rfl) ?_
    refine lv_aload_n hx hb dX4_init_15 rfl (lv_at hl 3 rfl) ?_
    refine zw_putF (C := RX4) (T := TX4) (N := 4) hx hb hts hin4 tyX4 tyX4_ok nmX4 hown hE.1 hW (xC_S hc0) rfl 2 (by decide) (hts (.fieldLink RX4 16 "UnionList$Sent" "copy" "LUnionList$Copy;") (by decide +kernel)) (fun _ h9 => h9) rfl hnm rfl rfl rfl (Nat.le_of_ble_eq_true rfl) dX4_init_16 (xP_S2 (v := some c3) hc0 (fun _ h9 => by cases h9; exact hc3)) (fun H locs hW => ?_)
    obtain ⟨k5, ek5⟩ : ∃ y, y = kptr k4 32 c0 (some c3) := ⟨_, rfl⟩
    rw [← ek5] at hW
    replace h := h k5 ek5
    replace hc0 : k5.2.2 c0 = 4 := by rw [ek5]; exact hc0
    replace hc3 : k5.2.2 c3 = 1 := by rw [ek5]; exact hc3
    refine lv_aload_n hx hb dX4_init_19 rfl (lv_at hl 0 rfl) ?_
    refine lv_aloadN hx hb dX4_init_20 (lv_at hl 4 rfl) ?_
    refine zw_putF (C := RX4) (T := TX4) (N := 4) hx hb hts hin4 tyX4 tyX4_ok nmX4 hown hE.1 hW (xC_S hc0) rfl 3 (by decide) (hts (.fieldLink RX4 20 "UnionList$Sent" "request" "LUnionList$Request;") (by decide +kernel)) (fun _ h9 => h9) rfl hnm rfl rfl rfl (Nat.le_of_ble_eq_true rfl) dX4_init_22 (xP_S3 (v := none) hc0 (fun _ h9 => nomatch h9)) (fun H locs hW => ?_)
    obtain ⟨k6, ek6⟩ : ∃ y, y = kptr k5 33 c0 none := ⟨_, rfl⟩
    rw [← ek6] at hW
    replace h := h k6 ek6
    replace hc0 : k6.2.2 c0 = 4 := by rw [ek6]; exact hc0
    replace hc3 : k6.2.2 c3 = 1 := by rw [ek6]; exact hc3
    refine W.widen (k := 0) (n := 8 * (0)) (by omega) (by omega) ?_
    exact (z_vret hx hb hr hlocks hW h dX4_init_25)
  · refine zMet (cc := cX4_init) (maxL := 5) (ret := none) (by decide) rfl (Nat.le_of_ble_eq_true rfl) (fun p e s m args below meth c ls hx hb hr hml hown hts hlocks hnm hs hE hW hl => ?_)
    have hsz := xW_sz hW
    have hs0 : S0 ≤ s.heap.size := hs
    have hin4 := hin_X4_init_4
    replace hl : lv_has ls 5 [(0, .ref c0), (1, .int p1), (2, .int p2), (3, .ref c3), (4, .ref o1)] := hl
    unfold wX4_init at h
    replace h := h.2 o1 rfl
    have hc_2 : k0.2.2 o1 = 3 := ha4 o1 rfl
    refine lv_aload_n hx hb dX4_init_0 rfl (lv_at hl 0 rfl) ?_
    refine W.objInit hx hb hown (hts (.methodLink RX4 1 objectInit) (by decide +kernel)) (hts (.instanceMethod objectInit) (by decide +kernel)) (hts (.code objectInit ⟨#[0xb1]⟩ 1 none) (by decide +kernel)) rfl (by rw [hml]; exact hl.1) rfl dX4_init_1 (Nat.le_of_ble_eq_true rfl) (Nat.le_of_ble_eq_true rfl) ?_
    refine W.eq (g2 := F0 m 4 ls []) rfl ?_
    refine lv_aload_n hx hb dX4_init_4 rfl (lv_at hl 0 rfl) ?_
    refine lv_iload_n hx hb dX4_init_5 rfl (lv_at hl 1 rfl) ?_
    refine zw_putF (C := RX4) (T := TX4) (N := 4) hx hb hts hin4 tyX4 tyX4_ok nmX4 hown hE.1 hW (xC_S hc0) rfl 0 (by decide) (hts (.fieldLink RX4 7 "UnionList$Sent" "kind" "I") (by decide +kernel)) (fun _ h9 => h9) rfl hnm rfl rfl rfl (Nat.le_of_ble_eq_true rfl) dX4_init_6 (xP_S0 hc0) (fun H locs hW => ?_)
    obtain ⟨k7, ek7⟩ : ∃ y, y = kset k0 30 c0 p1 := ⟨_, rfl⟩
    rw [← ek7] at hW
    replace h := h k7 ek7
    replace hc0 : k7.2.2 c0 = 4 := by rw [ek7]; exact hc0
    replace hc3 : k7.2.2 c3 = 1 := by rw [ek7]; exact hc3
    replace hc_2 : k7.2.2 o1 = 3 := by rw [ek7]; exact hc_2
    refine lv_aload_n hx hb dX4_init_9 rfl (lv_at hl 0 rfl) ?_
    refine lv_iload_n hx hb dX4_init_10 rfl (lv_at hl 2 rfl) ?_
    refine zw_putF (C := RX4) (T := TX4) (N := 4) hx hb hts hin4 tyX4 tyX4_ok nmX4 hown hE.1 hW (xC_S hc0) rfl 1 (by decide) (hts (.fieldLink RX4 13 "UnionList$Sent" "arrival" "I") (by decide +kernel)) (fun _ h9 => h9) rfl hnm rfl rfl rfl (Nat.le_of_ble_eq_true rfl) dX4_init_11 (xP_S1 hc0) (fun H locs hW => ?_)
    obtain ⟨k8, ek8⟩ : ∃ y, y = kset k7 31 c0 p2 := ⟨_, rfl⟩
    rw [← ek8] at hW
    replace h := h k8 ek8
    replace hc0 : k8.2.2 c0 = 4 := by rw [ek8]; exact hc0
    replace hc3 : k8.2.2 c3 = 1 := by rw [ek8]; exact hc3
    replace hc_2 : k8.2.2 o1 = 3 := by rw [ek8]; exact hc_2
    refine lv_aload_n hx hb dX4_init_14 rfl (lv_at hl 0 rfl) ?_
    refine lv_aload_n hx hb dX4_init_15 rfl (lv_at hl 3 rfl) ?_
    refine zw_putF (C := RX4) (T := TX4) (N := 4) hx hb hts hin4 tyX4 tyX4_ok nmX4 hown hE.1 hW (xC_S hc0) rfl 2 (by decide) (hts (.fieldLink RX4 16 "UnionList$Sent" "copy" "LUnionList$Copy;") (by decide +kernel)) (fun _ h9 => h9) rfl hnm rfl rfl rfl (Nat.le_of_ble_eq_true rfl) dX4_init_16 (xP_S2 (v := some c3) hc0 (fun _ h9 => by cases h9; exact hc3)) (fun H locs hW => ?_)
    obtain ⟨k9, ek9⟩ : ∃ y, y = kptr k8 32 c0 (some c3) := ⟨_, rfl⟩
    rw [← ek9] at hW
    replace h := h k9 ek9
    replace hc0 : k9.2.2 c0 = 4 := by rw [ek9]; exact hc0
    replace hc3 : k9.2.2 c3 = 1 := by rw [ek9]; exact hc3
    replace hc_2 : k9.2.2 o1 = 3 := by rw [ek9]; exact hc_2
    refine lv_aload_n hx hb dX4_init_19 rfl (lv_at hl 0 rfl) ?_
    refine lv_aload hx hb dX4_init_20 (lv_at hl 4 rfl) ?_
    refine zw_putF (C := RX4) (T := TX4) (N := 4) hx hb hts hin4 tyX4 tyX4_ok nmX4 hown hE.1 hW (xC_S hc0) rfl 3 (by decide) (hts (.fieldLink RX4 20 "UnionList$Sent" "request" "LUnionList$Request;") (by decide +kernel)) (fun _ h9 => h9) rfl hnm rfl rfl rfl (Nat.le_of_ble_eq_true rfl) dX4_init_22 (xP_S3 (v := some o1) hc0 (fun _ h9 => by cases h9; exact hc_2)) (fun H locs hW => ?_)
    obtain ⟨k10, ek10⟩ : ∃ y, y = kptr k9 33 c0 (some o1) := ⟨_, rfl⟩
    rw [← ek10] at hW
    replace h := h k10 ek10
    replace hc0 : k10.2.2 c0 = 4 := by rw [ek10]; exact hc0
    replace hc3 : k10.2.2 c3 = 1 := by rw [ek10]; exact hc3
    replace hc_2 : k10.2.2 o1 = 3 := by rw [ek10]; exact hc_2
    refine W.widen (k := 0) (n := 8 * (0)) (by omega) (by omega) ?_
    exact (z_vret hx hb hr hlocks hW h dX4_init_25)
