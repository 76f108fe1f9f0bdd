def wX5_addCopy (S0 : Nat) (k0 : kS) (p1 : Int32) (p2 : Int32) (Q : Int32 → kS → Prop) (QX : String → kS → Prop) : Prop := (wX5_isHouse S0 k0 p1 (fun r1 k2 => ((r1 = 0 → (0 + 1 ≤ 2 ∧ QX "java/lang/IllegalArgumentException" k2)) ∧ (¬ r1 = 0 → (wX5_isTitle S0 k2 p2 (fun r4 k5 => ((r4 = 0 → (0 + 1 ≤ 2 ∧ QX "java/lang/IllegalArgumentException" k5)) ∧ (¬ r4 = 0 → (((k5.1 0 0) < 0 → (0 + 1 ≤ 2 ∧ QX "java/lang/IllegalStateException" k5)) ∧ (¬ (k5.1 0 0) < 0 → (((k5.1 0 0) < 20 → (0 + 1 ≤ 2 ∧ ∀ q9 : Nat, k5.2.2 q9 = 0 → S0 + 9 ≤ q9 → ∀ k13 : kS, k13 = knew k5 q9 1 → (wX1_init S0 k13 q9 (k5.1 0 0) p1 p2 (fun k16 => (vp_in (k5.1 0 0) 20 ∧ (∀ k18 : kS, k18 = kptr k16 0 (k5.1 0 0).toNatClampNeg (some q9) → (∀ k19 : kS, k19 = kset k18 0 0 ((k5.1 0 0) + 1) → (wX0_countHomeCopy S0 k19 p1 (fun k21 => (wX5_sendNews S0 k21 0 q9 (fun k23 => Q (k5.1 0 0) k23))))))))))) ∧ (¬ (k5.1 0 0) < 20 → (0 + 1 ≤ 2 ∧ QX "java/lang/IllegalStateException" k5)))))))))))))
theorem hin_X5_addCopy_1 : ∀ w ∈ u_ws RX1 TX1 8, w ∈ wsX5_addCopy := by decide +kernel
theorem hin_X5_addCopy_5 : ∀ w ∈ u_ws RX5 TX5 7, w ∈ wsX5_addCopy := by decide +kernel
theorem hxt_X5_addCopy_58 : ∀ w ∈ (vx_atS RX5 58 "java/lang/IllegalArgumentException" ["java/lang/RuntimeException", "java/lang/Exception"]).filter goodWord, w ∈ wsX5_addCopy := by decide +kernel
theorem hxt_X5_addCopy_65 : ∀ w ∈ (vx_atS RX5 65 "java/lang/IllegalStateException" ["java/lang/RuntimeException", "java/lang/Exception"]).filter goodWord, w ∈ wsX5_addCopy := by decide +kernel
set_option maxHeartbeats 8000000 in
set_option maxRecDepth 100000 in
theorem cX5_addCopy_ok (l : Launch) (hlt : l.stackTraces = false) (D : zD) (S0 : Nat) (g : zF) (k0 : kS) (p1 : Int32) (p2 : Int32)  (Q : Int32 → kS → Prop) (QX : String → kS → Prop) (h : wX5_addCopy S0 k0 p1 p2 Q QX) : vx_Met l yX5_addCopy wsX5_addCopy { frames := 6, cells := 2, slots := 8 * (2), locals := 91 } (zPc D S0 (xR D S0 g k0 k0) [.ref S0, .int p1, .int p2]) (va_Qi Q (zB D S0 (fun u => xR D S0 g k0 u)) (zA S0)) (zX D S0 (fun u => xR D S0 g k0 u) QX) (2) (8 * (2)) (zA S0) := by
  refine zMetX (cc := cX5_addCopy) (maxL := 5) (ret := (some .int)) (by decide) rfl (Nat.le_of_ble_eq_true rfl) (fun p e s m args below meth c ls hx hb hr hml hown hts hlocks hnm hnt hs hE hW hl => ?_)
  have hsz := xW_sz hW
  have hs0 : S0 ≤ s.heap.size := hs
  have hin1 := hin_X5_addCopy_1
  have hin5 := hin_X5_addCopy_5
  replace hl : lv_has ls 5 [(0, .ref S0), (1, .int p1), (2, .int p2)] := hl
  unfold wX5_addCopy at h
  refine lv_iload_n hx hb dX5_addCopy_0 rfl (lv_at hl 1 rfl) ?_
  have hle := xW_kle hW
  refine zc_i (va_runS (As := [.int p1]) (rest := []) ⟨hx, hb, hml, hown, hts⟩ (cX5_isHouse_ok l hlt D S0 g k0 p1 _ h) (va_cwS 1 hts gX5_addCopy_X5_isHouse rfl rfl rfl (by decide +kernel) ⟨Nat.le_of_ble_eq_true rfl, Nat.le_of_ble_eq_true rfl⟩) (zpreS hE hs (xW_start hW)) rfl rfl hl.1 rfl (lv_room (Nat.le_of_ble_eq_true rfl)) dX5_addCopy_1 ⟨by show _ ≤ 2; omega, by show _ ≤ 8 * (2); omega⟩) hW (fun r1 k2 H locs h hW => ?_)
  obtain ⟨h, hz_r1⟩ := h
  replace hW := hW.mono (xR_tr hle)
  refine W.widen (k := 0) (n := 8 * (0)) (by omega) (by omega) ?_
  refine lv_if_eq (tgt := 14) hx hb dX5_addCopy_4 (by decide) (fun c_3 => ?_) (fun c_3 => ?_)
  · replace h := h.1 c_3
    exact z_throw (text := "home or title is out of range") hx hb hlt hown (by decide +kernel) (hts (.classLink RX5 54 "java/lang/IllegalArgumentException") (by decide +kernel)) (hts (.initialized "java/lang/IllegalArgumentException") (by decide +kernel)) (by decide +kernel) (vx_hatx hts hxt_X5_addCopy_58 (by decide +kernel) (by decide +kernel) hE) (by decide +kernel) hE hW (fun n n' f q w => xR_mono n n' f q w) (hl.1.trans hml.symm) dX5_addCopy_14 dX5_addCopy_17 dX5_addCopy_18 dX5_addCopy_20 dX5_addCopy_23 hnt (Nat.le_of_ble_eq_true rfl) (Nat.le_of_ble_eq_true rfl) (by have := h.1; show _ ≤ 2; omega) (by have := h.1; show _ ≤ 8 * (2); omega) hlocks h.2 (by have := h.1; omega) (by have := h.1; omega)
  · replace h := h.2 c_3
    refine lv_iload_n hx hb dX5_addCopy_7 rfl (lv_at hl 2 rfl) ?_
    have hle := xW_kle hW
    refine zc_i (va_runS (As := [.int p2]) (rest := []) ⟨hx, hb, hml, hown, hts⟩ (cX5_isTitle_ok l hlt D S0 g k2 p2 _ h) (va_cwS 1 hts gX5_addCopy_X5_isTitle rfl rfl rfl (by decide +kernel) ⟨Nat.le_of_ble_eq_true rfl, Nat.le_of_ble_eq_true rfl⟩) (zpreS hE hs (xW_start hW)) rfl rfl hl.1 rfl (lv_room (Nat.le_of_ble_eq_true rfl)) dX5_addCopy_8 ⟨by show _ ≤ 2; omega, by show _ ≤ 8 * (2); omega⟩) hW (fun r4 k5 H locs h hW => ?_)
    obtain ⟨h, hz_r4⟩ := h
    replace hW := hW.mono (xR_tr hle)
    refine W.widen (k := 0) (n := 8 * (0)) (by omega) (by omega) ?_
    refine lv_if_ne (tgt := 24) hx hb dX5_addCopy_11 (by decide) (fun c_6 => ?_) (fun c_6 => ?_)
    · replace h := h.2 c_6
      refine lv_aload_n hx hb dX5_addCopy_24 rfl (lv_at hl 0 rfl) ?_
      refine zw_get (C := RX5) (T := TX5) (N := 7) hx hb hts hin5 hown hE.1 hW xC_U rfl 4 (by decide) (hts (.fieldLink RX5 37 "UnionList" "copyCount" "I") (by decide +kernel)) (fun _ h9 => h9) rfl dX5_addCopy_25 ?_
      refine lv_istore_n (lv' := [(3, .int (k5.1 0 0)), (0, .ref S0), (1, .int p1), (2, .int p2)]) hx hb dX5_addCopy_28 rfl hl (by decide) rfl (fun ls hl => ?_)
      refine lv_iload_n hx hb dX5_addCopy_29 rfl (lv_at hl 0 rfl) ?_
      refine lv_if_lt (tgt := 42) hx hb dX5_addCopy_30 (by decide) (fun c_7 => ?_) (fun c_7 => ?_)
      · replace h := h.1 c_7
        exact z_throw (text := "there are 20 copies") hx hb hlt hown (by decide +kernel) (hts (.classLink RX5 61 "java/lang/IllegalStateException") (by decide +kernel)) (hts (.initialized "java/lang/IllegalStateException") (by decide +kernel)) (by decide +kernel) (vx_hatx hts hxt_X5_addCopy_65 (by decide +kernel) (by decide +kernel) hE) (by decide +kernel) hE hW (fun n n' f q w => xR_mono n n' f q w) (hl.1.trans hml.symm) dX5_addCopy_42 dX5_addCopy_45 dX5_addCopy_46 dX5_addCopy_48 dX5_addCopy_51 hnt (Nat.le_of_ble_eq_true rfl) (Nat.le_of_ble_eq_true rfl) (by have := h.1; show _ ≤ 2; omega) (by have := h.1; show _ ≤ 8 * (2); omega) hlocks h.2 (by have := h.1; omega) (by have := h.1; omega)
      · replace h := h.2 c_7
        refine lv_iload_n hx hb dX5_addCopy_33 rfl (lv_at hl 0 rfl) ?_
        refine lv_aload_n hx hb dX5_addCopy_34 rfl (lv_at hl 1 rfl) ?_
        refine zw_get (C := RX5) (T := TX5) (N := 7) hx hb hts hin5 hown hE.1 hW xC_U rfl 0 (by decide) (hts (.fieldLink RX5 11 "UnionList" "copies" "[LUnionList$Copy;") (by decide +kernel)) (fun _ h9 => h9) rfl dX5_addCopy_35 ?_
        refine zw_alen (v := 20) hx hb hE.1 hW 1 rfl xC_q0 rfl dX5_addCopy_38 ?_
        refine lv_icmp_lt (tgt := 52) hx hb dX5_addCopy_39 (by decide) (fun c_8 => ?_) (fun c_8 => ?_)
        · replace h := h.1 c_8
          obtain ⟨hb_10, h⟩ := h
          refine zw_new (ci := 1) (C := RX1) (T := TX1) (N := 8) (fs := [.int 0, .int 0, .int 0, .int 0, .int 0, .int 0, .int 0, .int 0]) hx hb hts hin1 tyX1 tyX1_ok hown (hts (.classLink RX5 9 RX1) (by decide +kernel)) (hts (.instantiable RX1 8) (by decide +kernel)) (hts (.initialized RX1) (by decide +kernel)) hE.1 hW hs0 rfl (fun j hj => by rcases (show j = 0 ∨ j = 1 ∨ j = 2 ∨ j = 3 ∨ j = 4 ∨ j = 5 ∨ j = 6 ∨ j = 7 by omega) with rfl | rfl | rfl | rfl | rfl | rfl | rfl | rfl <;> rfl) hb_10 (by show _ ≤ 8 * (2); omega) dX5_addCopy_52 (fun q9 H hW hq_12 => ?_)
          refine W.widen (k := 0 + 1) (n := 8 * (0 + 1)) (Nat.le_refl _) (by omega) ?_
          replace hq_12 : S0 + 9 ≤ q9 := Nat.le_trans hsz hq_12
          obtain ⟨h0_11, hW⟩ := xW_newC hW hq_12
          obtain ⟨k13, ek13⟩ : ∃ y, y = knew k5 q9 1 := ⟨_, rfl⟩
          rw [← ek13] at hW
          replace h := h q9 h0_11 hq_12 k13 ek13
          have hc_14 : k13.2.2 q9 = 1 := by rw [ek13]; exact knew_q _ _ _
          refine lv_dup hx hb dX5_addCopy_55 rfl ?_
          refine lv_iload_n hx hb dX5_addCopy_56 rfl (lv_at hl 0 rfl) ?_
          refine lv_iload_n hx hb dX5_addCopy_57 rfl (lv_at hl 2 rfl) ?_
          refine lv_iload_n hx hb dX5_addCopy_58 rfl (lv_at hl 3 rfl) ?_
          have hle := xW_kle hW
          refine zc_v (va_runI (As := [.int (k5.1 0 0), .int p1, .int p2]) (rest := [.ref q9]) ⟨hx, hb, hml, hown, hts⟩ (cX1_init_ok l hlt D S0 g k13 q9 (k5.1 0 0) p1 p2 hc_14 _ h) (cwI 3 hts gX5_addCopy_X1_init rfl rfl rfl (hts (.initialized RX1) (by decide +kernel)) (hts (.methodLink RX5 66 yX1_init) (by decide +kernel)) (hts (.instanceMethod yX1_init) (by decide +kernel)) rfl (by decide +kernel) ⟨Nat.le_of_ble_eq_true rfl, Nat.le_of_ble_eq_true rfl⟩) (zpreS hE hs (xW_start hW)) rfl rfl hl.1 rfl (lv_room (Nat.le_of_ble_eq_true rfl)) dX5_addCopy_59 ⟨by show _ ≤ 2; omega, by show _ ≤ 8 * (2); omega⟩) hW (fun k16 H locs h hW => ?_)
          replace hc_14 := kle_1 (xW_kle hW) hc_14
          replace hW := hW.mono (xR_tr hle)
          refine W.widen (k := 0 + 1) (n := 8 * (0 + 1)) (by omega) (by omega) ?_
          refine lv_astore (lv' := [(4, .ref q9), (3, .int (k5.1 0 0)), (0, .ref S0), (1, .int p1), (2, .int p2)]) hx hb dX5_addCopy_62 hl (by decide) rfl (fun ls hl => ?_)
          refine lv_aload_n hx hb dX5_addCopy_64 rfl (lv_at hl 2 rfl) ?_
          refine zw_get (C := RX5) (T := TX5) (N := 7) hx hb hts hin5 hown hE.1 hW xC_U rfl 0 (by decide) (hts (.fieldLink RX5 11 "UnionList" "copies" "[LUnionList$Copy;") (by decide +kernel)) (fun _ h9 => h9) rfl dX5_addCopy_65 ?_
          refine lv_iload_n hx hb dX5_addCopy_68 rfl (lv_at hl 1 rfl) ?_
          refine lv_aload hx hb dX5_addCopy_69 (lv_at hl 0 rfl) ?_
          obtain ⟨hb_17, h⟩ := h
          refine zw_astq (r := (RX1, TX1, 8)) hx hb hE.1 hW 1 rfl xC_q0 (xC_C hc_14) rfl hb_17 dX5_addCopy_71 (xP_q0 (fun _ h9 => by cases h9; exact hc_14)) (fun H locs hW => ?_)
          obtain ⟨k18, ek18⟩ : ∃ y, y = kptr k16 0 (k5.1 0 0).toNatClampNeg (some q9) := ⟨_, rfl⟩
          rw [← ek18] at hW
          replace h := h k18 ek18
          replace hc_14 : k18.2.2 q9 = 1 := by rw [ek18]; exact hc_14
          refine lv_aload_n hx hb dX5_addCopy_72 rfl (lv_at hl 2 rfl) ?_
          refine lv_iload_n hx hb dX5_addCopy_73 rfl (lv_at hl 1 rfl) ?_
          refine lv_iconst (v := 1) hx hb dX5_addCopy_74 (by decide) ?_
          refine lv_iadd hx hb dX5_addCopy_75 ?_
          refine zw_put (C := RX5) (T := TX5) (N := 7) hx hb hts hin5 tyX5 tyX5_ok nmX5 hown hE.1 hW xC_U rfl 4 (by decide) (hts (.fieldLink RX5 37 "UnionList" "copyCount" "I") (by decide +kernel)) (fun _ h9 => h9) rfl rfl rfl (Nat.le_of_ble_eq_true rfl) dX5_addCopy_76 xP_U4 (fun H locs hW => ?_)
          obtain ⟨k19, ek19⟩ : ∃ y, y = kset k18 0 0 ((k5.1 0 0) + 1) := ⟨_, rfl⟩
          rw [← ek19] at hW
          replace h := h k19 ek19
          replace hc_14 : k19.2.2 q9 = 1 := by rw [ek19]; exact hc_14
          refine lv_aload_n hx hb dX5_addCopy_79 rfl (lv_at hl 2 rfl) ?_
          refine zw_get (C := RX5) (T := TX5) (N := 7) hx hb hts hin5 hown hE.1 hW xC_U rfl 3 (by decide) (hts (.fieldLink RX5 33 "UnionList" "accounts" "LUnionList$Accounts;") (by decide +kernel)) (fun _ h9 => h9) rfl dX5_addCopy_80 ?_
          refine lv_iload_n hx hb dX5_addCopy_83 rfl (lv_at hl 3 rfl) ?_
          have hle := xW_kle hW
          refine zc_v (va_runV (As := [.int p1]) (rest := []) ⟨hx, hb, hml, hown, hts⟩ (cX0_countHomeCopy_ok l hlt D S0 g k19 p1 _ h) (cwV 1 hts gX5_addCopy_X0_countHomeCopy rfl rfl rfl (by decide +kernel) ⟨Nat.le_of_ble_eq_true rfl, Nat.le_of_ble_eq_true rfl⟩) (zpreV (q := (RX0, TX0, 3)) hE hs (xW_start hW) xC_A rfl) rfl rfl hl.1 rfl (lv_room (Nat.le_of_ble_eq_true rfl)) dX5_addCopy_84 ⟨by show _ ≤ 2; omega, by show _ ≤ 8 * (2); omega⟩) hW (fun k21 H locs h hW => ?_)
          replace hc_14 := kle_1 (xW_kle hW) hc_14
          replace hW := hW.mono (xR_tr hle)
          refine W.widen (k := 0 + 1) (n := 8 * (0 + 1)) (by omega) (by omega) ?_
          refine lv_aload_n hx hb dX5_addCopy_87 rfl (lv_at hl 2 rfl) ?_
          refine lv_iconst (v := 0) hx hb dX5_addCopy_88 (by decide) ?_
          refine lv_aload hx hb dX5_addCopy_89 (lv_at hl 0 rfl) ?_
          have hle := xW_kle hW
          refine zc_v (va_runV (As := [.int 0, .ref q9]) (rest := []) ⟨hx, hb, hml, hown, hts⟩ (cX5_sendNews_ok l hlt D S0 g k21 0 q9 hc_14 _ h) (cwV 2 hts gX5_addCopy_X5_sendNews rfl rfl rfl (by decide +kernel) ⟨Nat.le_of_ble_eq_true rfl, Nat.le_of_ble_eq_true rfl⟩) (zpreV (q := (RX5, TX5, 7)) hE hs (xW_start hW) xC_U rfl) rfl rfl hl.1 rfl (lv_room (Nat.le_of_ble_eq_true rfl)) dX5_addCopy_91 ⟨by show _ ≤ 2; omega, by show _ ≤ 8 * (2); omega⟩) hW (fun k23 H locs h hW => ?_)
          replace hc_14 := kle_1 (xW_kle hW) hc_14
          replace hW := hW.mono (xR_tr hle)
          refine W.widen (k := 0 + 1 + 1) (n := 8 * (0 + 1 + 1)) (by omega) (by omega) ?_
          refine lv_iload_n hx hb dX5_addCopy_94 rfl (lv_at hl 1 rfl) ?_
          refine W.widen (k := 2) (n := 8 * (2)) (by omega) (by omega) ?_
          exact vx_ret (z_iret hx hb hr hlocks hW h dX5_addCopy_95)
        · replace h := h.2 c_8
          exact z_throw (text := "there are 20 copies") hx hb hlt hown (by decide +kernel) (hts (.classLink RX5 61 "java/lang/IllegalStateException") (by decide +kernel)) (hts (.initialized "java/lang/IllegalStateException") (by decide +kernel)) (by decide +kernel) (vx_hatx hts hxt_X5_addCopy_65 (by decide +kernel) (by decide +kernel) hE) (by decide +kernel) hE hW (fun n n' f q w => xR_mono n n' f q w) (hl.1.trans hml.symm) dX5_addCopy_42 dX5_addCopy_45 dX5_addCopy_46 dX5_addCopy_48 dX5_addCopy_51 hnt (Nat.le_of_ble_eq_true rfl) (Nat.le_of_ble_eq_true rfl) (by have := h.1; show _ ≤ 2; omega) (by have := h.1; show _ ≤ 8 * (2); omega) hlocks h.2 (by have := h.1; omega) (by have := h.1; omega)
    · replace h := h.1 c_6
      exact z_throw (text := "home or title is out of range") hx hb hlt hown (by decide +kernel) (hts (.classLink RX5 54 "java/lang/IllegalArgumentException") (by decide +kernel)) (hts (.initialized "java/lang/IllegalArgumentException") (by decide +kernel)) (by decide +kernel) (vx_hatx hts hxt_X5_addCopy_58 (by decide +kernel) (by decide +kernel) hE) (by decide +kernel) hE hW (fun n n' f q w => xR_mono n n' f q w) (hl.1.trans hml.symm) dX5_addCopy_14 dX5_addCopy_17 dX5_addCopy_18 dX5_addCopy_20 dX5_addCopy_23 hnt (Nat.le_of_ble_eq_true rfl) (Nat.le_of_ble_eq_true rfl) (by have := h.1; show _ ≤ 2; omega) (by have := h.1; show _ ≤ 8 * (2); omega) hlocks h.2 (by have := h.1; omega) (by have := h.1; omega)

def wX5_inHandsOf (S0 : Nat) (k0 : kS) (p1 : Int32) (Q : Int32 → kS → Prop) (QX : String → kS → Prop) : Prop := (wX5_copyNumbered S0 k0 p1 (fun r1 k2 => ((r1 = none → False) ∧ (∀ o4 : Nat, r1 = some o4 → Q (k2.1 13 o4) k2))) QX)
theorem hin_X5_inHandsOf_1 : ∀ w ∈ u_ws RX1 TX1 8, w ∈ wsX5_inHandsOf := by decide +kernel
set_option maxHeartbeats 8000000 in
set_option maxRecDepth 100000 in
theorem cX5_inHandsOf_ok (l : Launch) (hlt : l.stackTraces = false) (D : zD) (S0 : Nat) (g : zF) (k0 : kS) (p1 : Int32)  (Q : Int32 → kS → Prop) (QX : String → kS → Prop) (h : wX5_inHandsOf S0 k0 p1 Q QX) : vx_Met l yX5_inHandsOf wsX5_inHandsOf { frames := 7, cells := 1, slots := 8 * (1), locals := 112 } (zPc D S0 (xR D S0 g k0 k0) [.ref S0, .int p1]) (va_Qi Q (zB D S0 (fun u => xR D S0 g k0 u)) (zA S0)) (zX D S0 (fun u => xR D S0 g k0 u) QX) (1) (8 * (1)) (zA S0) := by
  refine zMetX (cc := cX5_inHandsOf) (maxL := 2) (ret := (some .int)) (by decide) rfl (Nat.le_of_ble_eq_true rfl) (fun p e s m args below meth c ls hx hb hr hml hown hts hlocks hnm hnt hs hE hW hl => ?_)
  have hsz := xW_sz hW
  have hs0 : S0 ≤ s.heap.size := hs
  have hin1 := hin_X5_inHandsOf_1
  replace hl : lv_has ls 2 [(0, .ref S0), (1, .int p1)] := hl
  unfold wX5_inHandsOf at h
  refine lv_aload_n hx hb dX5_inHandsOf_0 rfl (lv_at hl 0 rfl) ?_
  refine lv_iload_n hx hb dX5_inHandsOf_1 rfl (lv_at hl 1 rfl) ?_
  have hle := xW_kle hW
  refine zxc_q (vx_runV (As := [.int p1]) (rest := []) ⟨hx, hb, hml, hown, hts⟩ (cX5_copyNumbered_ok l hlt D S0 g k0 p1 _ _ h) (cwV 1 hts gX5_inHandsOf_X5_copyNumbered rfl rfl rfl (by decide +kernel) ⟨Nat.le_of_ble_eq_true rfl, Nat.le_of_ble_eq_true rfl⟩) (zpreV (q := (RX5, TX5, 7)) hE hs (xW_start hW) xC_U rfl) rfl rfl hl.1 rfl (lv_room (Nat.le_of_ble_eq_true rfl)) dX5_inHandsOf_2 ⟨by show _ ≤ 1; omega, by show _ ≤ 8 * (1); omega⟩) hW (fun E ce q9 k2 H locs h hW hcell hv9 hcl9 => z_out hnt hlocks hcell hv9 hcl9 (hW.mono (xR_tr hle)) h (by omega) (by omega)) (fun r1 k2 H locs h hW => ?_)
  replace hW := hW.mono (xR_tr hle)
  refine W.widen (k := 0 + 1) (n := 8 * (0 + 1)) (by omega) (by omega) ?_
  obtain ⟨h, hk_3⟩ := h
  rcases eo_5 : r1 with _ | o4
  · replace h := h.1 eo_5
    exact h.elim
  · replace h := h.2 o4 eo_5
    have hc_6 : k2.2.2 o4 = 1 := hk_3 o4 eo_5
    refine zw_get (C := RX1) (T := TX1) (N := 8) hx hb hts hin1 hown hE.1 hW (xC_C hc_6) rfl 3 (by decide) (hts (.fieldLink RX5 80 "UnionList$Copy" "holder" "I") (by decide +kernel)) (fun _ h9 => h9) rfl dX5_inHandsOf_5 ?_
    refine W.widen (k := 1) (n := 8 * (1)) (by omega) (by omega) ?_
    exact vx_ret (z_iret hx hb hr hlocks hW h dX5_inHandsOf_8)

def wX5_isFree (S0 : Nat) (k0 : kS) (p1 : Int32) (Q : Int32 → kS → Prop) (QX : String → kS → Prop) : Prop := (wX5_copyNumbered S0 k0 p1 (fun r1 k2 => ((r1 = none → False) ∧ (∀ o4 : Nat, r1 = some o4 → (wX1_canBeSent S0 k2 o4 (fun r7 k8 => Q r7 k8))))) QX)
set_option maxHeartbeats 8000000 in
set_option maxRecDepth 100000 in
theorem cX5_isFree_ok (l : Launch) (hlt : l.stackTraces = false) (D : zD) (S0 : Nat) (g : zF) (k0 : kS) (p1 : Int32)  (Q : Int32 → kS → Prop) (QX : String → kS → Prop) (h : wX5_isFree S0 k0 p1 Q QX) : vx_Met l yX5_isFree wsX5_isFree { frames := 7, cells := 1, slots := 8 * (1), locals := 112 } (zPc D S0 (xR D S0 g k0 k0) [.ref S0, .int p1]) (va_Qi (fun r u => Q r u ∧ (r = 0 ∨ r = 1)) (zB D S0 (fun u => xR D S0 g k0 u)) (zA S0)) (zX D S0 (fun u => xR D S0 g k0 u) QX) (1) (8 * (1)) (zA S0) := by
  refine zMetX (cc := cX5_isFree) (maxL := 2) (ret := (some .boolean)) (by decide) rfl (Nat.le_of_ble_eq_true rfl) (fun p e s m args below meth c ls hx hb hr hml hown hts hlocks hnm hnt hs hE hW hl => ?_)
  have hsz := xW_sz hW
  have hs0 : S0 ≤ s.heap.size := hs
  replace hl : lv_has ls 2 [(0, .ref S0), (1, .int p1)] := hl
  unfold wX5_isFree at h
  refine lv_aload_n hx hb dX5_isFree_0 rfl (lv_at hl 0 rfl) ?_
  refine lv_iload_n hx hb dX5_isFree_1 rfl (lv_at hl 1 rfl) ?_
  have hle := xW_kle hW
  refine zxc_q (vx_runV (As := [.int p1]) (rest := []) ⟨hx, hb, hml, hown, hts⟩ (cX5_copyNumbered_ok l hlt D S0 g k0 p1 _ _ h) (cwV 1 hts gX5_isFree_X5_copyNumbered rfl rfl rfl (by decide +kernel) ⟨Nat.le_of_ble_eq_true rfl, Nat.le_of_ble_eq_true rfl⟩) (zpreV (q := (RX5, TX5, 7)) hE hs (xW_start hW) xC_U rfl) rfl rfl hl.1 rfl (lv_room (Nat.le_of_ble_eq_true rfl)) dX5_isFree_2 ⟨by show _ ≤ 1; omega, by show _ ≤ 8 * (1); omega⟩) hW (fun E ce q9 k2 H locs h hW hcell hv9 hcl9 => z_out hnt hlocks hcell hv9 hcl9 (hW.mono (xR_tr hle)) h (by omega) (by omega)) (fun r1 k2 H locs h hW => ?_)
  replace hW := hW.mono (xR_tr hle)
  refine W.widen (k := 0 + 1) (n := 8 * (0 + 1)) (by omega) (by omega) ?_
  obtain ⟨h, hk_3⟩ := h
  rcases eo_5 : r1 with _ | o4
  · replace h := h.1 eo_5
    exact h.elim
  · replace h := h.2 o4 eo_5
    have hc_6 : k2.2.2 o4 = 1 := hk_3 o4 eo_5
    have hle := xW_kle hW
    refine zc_i (va_runV (As := []) (rest := []) ⟨hx, hb, hml, hown, hts⟩ (cX1_canBeSent_ok l hlt D S0 g k2 o4 hc_6 _ h) (cwV 0 hts gX5_isFree_X1_canBeSent rfl rfl rfl (by decide +kernel) ⟨Nat.le_of_ble_eq_true rfl, Nat.le_of_ble_eq_true rfl⟩) (zpreV (q := (RX1, TX1, 8)) hE hs (xW_start hW) (xC_C hc_6) rfl) rfl rfl hl.1 rfl (lv_room (Nat.le_of_ble_eq_true rfl)) dX5_isFree_5 ⟨by show _ ≤ 1; omega, by show _ ≤ 8 * (1); omega⟩) hW (fun r7 k8 H locs h hW => ?_)
    obtain ⟨h, hz_r7⟩ := h
    replace hc_6 := kle_1 (xW_kle hW) hc_6
    replace hW := hW.mono (xR_tr hle)
    refine W.widen (k := 0 + 1) (n := 8 * (0 + 1)) (by omega) (by omega) ?_
    refine W.widen (k := 1) (n := 8 * (1)) (by omega) (by omega) ?_
    exact vx_ret (z_zret hx hb hr hlocks hW (nar_z hz_r7) ⟨h, hz_r7⟩ dX5_isFree_8)

def wX5_listed (S0 : Nat) (k0 : kS) (p1 : Int32) (Q : Int32 → kS → Prop) (QX : String → kS → Prop) : Prop := (wX5_copyNumbered S0 k0 p1 (fun r1 k2 => ((r1 = none → False) ∧ (∀ o4 : Nat, r1 = some o4 → Q (k2.1 15 o4) k2))) QX)
theorem hin_X5_listed_1 : ∀ w ∈ u_ws RX1 TX1 8, w ∈ wsX5_listed := by decide +kernel
set_option maxHeartbeats 8000000 in
set_option maxRecDepth 100000 in
theorem cX5_listed_ok (l : Launch) (hlt : l.stackTraces = false) (D : zD) (S0 : Nat) (g : zF) (k0 : kS) (p1 : Int32)  (Q : Int32 → kS → Prop) (QX : String → kS → Prop) (h : wX5_listed S0 k0 p1 Q QX) : vx_Met l yX5_listed wsX5_listed { frames := 7, cells := 1, slots := 8 * (1), locals := 112 } (zPc D S0 (xR D S0 g k0 k0) [.ref S0, .int p1]) (va_Qi Q (zB D S0 (fun u => xR D S0 g k0 u)) (zA S0)) (zX D S0 (fun u => xR D S0 g k0 u) QX) (1) (8 * (1)) (zA S0) := by
  refine zMetX (cc := cX5_listed) (maxL := 2) (ret := (some .int)) (by decide) rfl (Nat.le_of_ble_eq_true rfl) (fun p e s m args below meth c ls hx hb hr hml hown hts hlocks hnm hnt hs hE hW hl => ?_)
  have hsz := xW_sz hW
  have hs0 : S0 ≤ s.heap.size := hs
  have hin1 := hin_X5_listed_1
  replace hl : lv_has ls 2 [(0, .ref S0), (1, .int p1)] := hl
  unfold wX5_listed at h
  refine lv_aload_n hx hb dX5_listed_0 rfl (lv_at hl 0 rfl) ?_
  refine lv_iload_n hx hb dX5_listed_1 rfl (lv_at hl 1 rfl) ?_
  have hle := xW_kle hW
  refine zxc_q (vx_runV (As := [.int p1]) (rest := []) ⟨hx, hb, hml, hown, hts⟩ (cX5_copyNumbered_ok l hlt D S0 g k0 p1 _ _ h) (cwV 1 hts gX5_listed_X5_copyNumbered rfl rfl rfl (by decide +kernel) ⟨Nat.le_of_ble_eq_true rfl, Nat.le_of_ble_eq_true rfl⟩) (zpreV (q := (RX5, TX5, 7)) hE hs (xW_start hW) xC_U rfl) rfl rfl hl.1 rfl (lv_room (Nat.le_of_ble_eq_true rfl)) dX5_listed_2 ⟨by show _ ≤ 1; omega, by show _ ≤ 8 * (1); omega⟩) hW (fun E ce q9 k2 H locs h hW hcell hv9 hcl9 => z_out hnt hlocks hcell hv9 hcl9 (hW.mono (xR_tr hle)) h (by omega) (by omega)) (fun r1 k2 H locs h hW => ?_)
  replace hW := hW.mono (xR_tr hle)
  refine W.widen (k := 0 + 1) (n := 8 * (0 + 1)) (by omega) (by omega) ?_
  obtain ⟨h, hk_3⟩ := h
  rcases eo_5 : r1 with _ | o4
  · replace h := h.1 eo_5
    exact h.elim
  · replace h := h.2 o4 eo_5
    have hc_6 : k2.2.2 o4 = 1 := hk_3 o4 eo_5
    refine zw_get (C := RX1) (T := TX1) (N := 8) hx hb hts hin1 hown hE.1 hW (xC_C hc_6) rfl 5 (by decide) (hts (.fieldLink RX5 87 "UnionList$Copy" "knownToList" "I") (by decide +kernel)) (fun _ h9 => h9) rfl dX5_listed_5 ?_
    refine W.widen (k := 1) (n := 8 * (1)) (by omega) (by omega) ?_
    exact vx_ret (z_iret hx hb hr hlocks hW h dX5_listed_8)

def wX5_harm (S0 : Nat) (k0 : kS) (p1 : Int32) (Q : Int32 → kS → Prop) (QX : String → kS → Prop) : Prop := (wX5_copyNumbered S0 k0 p1 (fun r1 k2 => ((r1 = none → False) ∧ (∀ o4 : Nat, r1 = some o4 → (wX1_isHarmed S0 k2 o4 (fun r7 k8 => ((r7 = 0 → (∀ k10 : kS, k10 = kset k8 16 o4 (k8.1 13 o4) → Q (k10.1 16 o4) k10)) ∧ (¬ r7 = 0 → (0 + 1 + 1 ≤ 2 ∧ QX "java/lang/IllegalStateException" k8)))))))) QX)
theorem hin_X5_harm_1 : ∀ w ∈ u_ws RX1 TX1 8, w ∈ wsX5_harm := by decide +kernel
theorem hxt_X5_harm_65 : ∀ w ∈ (vx_atS RX5 65 "java/lang/IllegalStateException" ["java/lang/RuntimeException", "java/lang/Exception"]).filter goodWord, w ∈ wsX5_harm := by decide +kernel
set_option maxHeartbeats 8000000 in
set_option maxRecDepth 100000 in
theorem cX5_harm_ok (l : Launch) (hlt : l.stackTraces = false) (D : zD) (S0 : Nat) (g : zF) (k0 : kS) (p1 : Int32)  (Q : Int32 → kS → Prop) (QX : String → kS → Prop) (h : wX5_harm S0 k0 p1 Q QX) : vx_Met l yX5_harm wsX5_harm { frames := 7, cells := 2, slots := 8 * (2), locals := 112 } (zPc D S0 (xR D S0 g k0 k0) [.ref S0, .int p1]) (va_Qi Q (zB D S0 (fun u => xR D S0 g k0 u)) (zA S0)) (zX D S0 (fun u => xR D S0 g k0 u) QX) (2) (8 * (2)) (zA S0) := by
  refine zMetX (cc := cX5_harm) (maxL := 3) (ret := (some .int)) (by decide) rfl (Nat.le_of_ble_eq_true rfl) (fun p e s m args below meth c ls hx hb hr hml hown hts hlocks hnm hnt hs hE hW hl => ?_)
  have hsz := xW_sz hW
  have hs0 : S0 ≤ s.heap.size := hs
  have hin1 := hin_X5_harm_1
  replace hl : lv_has ls 3 [(0, .ref S0), (1, .int p1)] := hl
  unfold wX5_harm at h
  refine lv_aload_n hx hb dX5_harm_0 rfl (lv_at hl 0 rfl) ?_
  refine lv_iload_n hx hb dX5_harm_1 rfl (lv_at hl 1 rfl) ?_
  have hle := xW_kle hW
  refine zxc_q (vx_runV (As := [.int p1]) (rest := []) ⟨hx, hb, hml, hown, hts⟩ (cX5_copyNumbered_ok l hlt D S0 g k0 p1 _ _ h) (cwV 1 hts gX5_harm_X5_copyNumbered rfl rfl rfl (by decide +kernel) ⟨Nat.le_of_ble_eq_true rfl, Nat.le_of_ble_eq_true rfl⟩) (zpreV (q := (RX5, TX5, 7)) hE hs (xW_start hW) xC_U rfl) rfl rfl hl.1 rfl (lv_room (Nat.le_of_ble_eq_true rfl)) dX5_harm_2 ⟨by show _ ≤ 2; omega, by show _ ≤ 8 * (2); omega⟩) hW (fun E ce q9 k2 H locs h hW hcell hv9 hcl9 => z_out hnt hlocks hcell hv9 hcl9 (hW.mono (xR_tr hle)) h (by omega) (by omega)) (fun r1 k2 H locs h hW => ?_)
  replace hW := hW.mono (xR_tr hle)
  refine W.widen (k := 0 + 1) (n := 8 * (0 + 1)) (by omega) (by omega) ?_
  obtain ⟨h, hk_3⟩ := h
  rcases eo_5 : r1 with _ | o4
  · replace h := h.1 eo_5
    refine lv_astore_nN (lv' := [(2, .null), (0, .ref S0), (1, .int p1)]) hx hb dX5_harm_5 rfl hl (by decide) rfl (fun ls hl => ?_)
    refine lv_aload_nN hx hb dX5_harm_6 rfl (lv_at hl 0 rfl) ?_
    exact h.elim
  · replace h := h.2 o4 eo_5
    have hc_6 : k2.2.2 o4 = 1 := hk_3 o4 eo_5
    refine lv_astore_n (lv' := [(2, .ref o4), (0, .ref S0), (1, .int p1)]) hx hb dX5_harm_5 rfl hl (by decide) rfl (fun ls hl => ?_)
    refine lv_aload_n hx hb dX5_harm_6 rfl (lv_at hl 0 rfl) ?_
    have hle := xW_kle hW
    refine zc_i (va_runV (As := []) (rest := []) ⟨hx, hb, hml, hown, hts⟩ (cX1_isHarmed_ok l hlt D S0 g k2 o4 hc_6 _ h) (cwV 0 hts gX5_harm_X1_isHarmed rfl rfl rfl (by decide +kernel) ⟨Nat.le_of_ble_eq_true rfl, Nat.le_of_ble_eq_true rfl⟩) (zpreV (q := (RX1, TX1, 8)) hE hs (xW_start hW) (xC_C hc_6) rfl) rfl rfl hl.1 rfl (lv_room (Nat.le_of_ble_eq_true rfl)) dX5_harm_7 ⟨by show _ ≤ 2; omega, by show _ ≤ 8 * (2); omega⟩) hW (fun r7 k8 H locs h hW => ?_)
    obtain ⟨h, hz_r7⟩ := h
    replace hc_6 := kle_1 (xW_kle hW) hc_6
    replace hW := hW.mono (xR_tr hle)
    refine W.widen (k := 0 + 1) (n := 8 * (0 + 1)) (by omega) (by omega) ?_
    refine lv_if_eq (tgt := 23) hx hb dX5_harm_10 (by decide) (fun c_9 => ?_) (fun c_9 => ?_)
    · replace h := h.1 c_9
      refine lv_aload_n hx hb dX5_harm_23 rfl (lv_at hl 0 rfl) ?_
      refine lv_aload_n hx hb dX5_harm_24 rfl (lv_at hl 0 rfl) ?_
      refine zw_get (C := RX1) (T := TX1) (N := 8) hx hb hts hin1 hown hE.1 hW (xC_C hc_6) rfl 3 (by decide) (hts (.fieldLink RX5 80 "UnionList$Copy" "holder" "I") (by decide +kernel)) (fun _ h9 => h9) rfl dX5_harm_25 ?_
      refine zw_put (C := RX1) (T := TX1) (N := 8) hx hb hts hin1 tyX1 tyX1_ok nmX1 hown hE.1 hW (xC_C hc_6) rfl 6 (by decide) (hts (.fieldLink RX5 95 "UnionList$Copy" "harmedBy" "I") (by decide +kernel)) (fun _ h9 => h9) rfl rfl rfl (Nat.le_of_ble_eq_true rfl) dX5_harm_28 (xP_C6 hc_6) (fun H locs hW => ?_)
      obtain ⟨k10, ek10⟩ : ∃ y, y = kset k8 16 o4 (k8.1 13 o4) := ⟨_, rfl⟩
      rw [← ek10] at hW
      replace h := h k10 ek10
      replace hc_6 : k10.2.2 o4 = 1 := by rw [ek10]; exact hc_6
      refine lv_aload_n hx hb dX5_harm_31 rfl (lv_at hl 0 rfl) ?_
      refine zw_get (C := RX1) (T := TX1) (N := 8) hx hb hts hin1 hown hE.1 hW (xC_C hc_6) rfl 6 (by decide) (hts (.fieldLink RX5 95 "UnionList$Copy" "harmedBy" "I") (by decide +kernel)) (fun _ h9 => h9) rfl dX5_harm_32 ?_
      refine W.widen (k := 2) (n := 8 * (2)) (by omega) (by omega) ?_
      exact vx_ret (z_iret hx hb hr hlocks hW h dX5_harm_35)
    · replace h := h.2 c_9
      exact z_throw (text := "it was harmed and was not mended since") hx hb hlt hown (by decide +kernel) (hts (.classLink RX5 61 "java/lang/IllegalStateException") (by decide +kernel)) (hts (.initialized "java/lang/IllegalStateException") (by decide +kernel)) (by decide +kernel) (vx_hatx hts hxt_X5_harm_65 (by decide +kernel) (by decide +kernel) hE) (by decide +kernel) hE hW (fun n n' f q w => xR_mono n n' f q w) (hl.1.trans hml.symm) dX5_harm_13 dX5_harm_16 dX5_harm_17 dX5_harm_19 dX5_harm_22 hnt (Nat.le_of_ble_eq_true rfl) (Nat.le_of_ble_eq_true rfl) (by have := h.1; show _ ≤ 2; omega) (by have := h.1; show _ ≤ 8 * (2); omega) hlocks h.2 (by have := h.1; omega) (by have := h.1; omega)

def wX5_look (S0 : Nat) (k0 : kS) (p1 : Int32) (Q : Int32 → kS → Prop) (QX : String → kS → Prop) : Prop := (wX5_copyNumbered S0 k0 p1 (fun r1 k2 => ((r1 = none → False) ∧ (∀ o4 : Nat, r1 = some o4 → (((k2.1 14 o4) = 0 → (wX5_examine S0 k2 o4 (fun r8 k9 => Q r8 k9))) ∧ (¬ (k2.1 14 o4) = 0 → (0 + 1 + 1 ≤ 2 ∧ QX "java/lang/IllegalStateException" k2)))))) QX)
theorem hin_X5_look_1 : ∀ w ∈ u_ws RX1 TX1 8, w ∈ wsX5_look := by decide +kernel
theorem hxt_X5_look_65 : ∀ w ∈ (vx_atS RX5 65 "java/lang/IllegalStateException" ["java/lang/RuntimeException", "java/lang/Exception"]).filter goodWord, w ∈ wsX5_look := by decide +kernel
set_option maxHeartbeats 8000000 in
set_option maxRecDepth 100000 in
theorem cX5_look_ok (l : Launch) (hlt : l.stackTraces = false) (D : zD) (S0 : Nat) (g : zF) (k0 : kS) (p1 : Int32)  (Q : Int32 → kS → Prop) (QX : String → kS → Prop) (h : wX5_look S0 k0 p1 Q QX) : vx_Met l yX5_look wsX5_look { frames := 7, cells := 2, slots := 8 * (2), locals := 112 } (zPc D S0 (xR D S0 g k0 k0) [.ref S0, .int p1]) (va_Qi Q (zB D S0 (fun u => xR D S0 g k0 u)) (zA S0)) (zX D S0 (fun u => xR D S0 g k0 u) QX) (2) (8 * (2)) (zA S0) := by
  refine zMetX (cc := cX5_look) (maxL := 3) (ret := (some .int)) (by decide) rfl (Nat.le_of_ble_eq_true rfl) (fun p e s m args below meth c ls hx hb hr hml hown hts hlocks hnm hnt hs hE hW hl => ?_)
  have hsz := xW_sz hW
  have hs0 : S0 ≤ s.heap.size := hs
  have hin1 := hin_X5_look_1
  replace hl : lv_has ls 3 [(0, .ref S0), (1, .int p1)] := hl
  unfold wX5_look at h
  refine lv_aload_n hx hb dX5_look_0 rfl (lv_at hl 0 rfl) ?_
  refine lv_iload_n hx hb dX5_look_1 rfl (lv_at hl 1 rfl) ?_
  have hle := xW_kle hW
  refine zxc_q (vx_runV (As := [.int p1]) (rest := []) ⟨hx, hb, hml, hown, hts⟩ (cX5_copyNumbered_ok l hlt D S0 g k0 p1 _ _ h) (cwV 1 hts gX5_look_X5_copyNumbered rfl rfl rfl (by decide +kernel) ⟨Nat.le_of_ble_eq_true rfl, Nat.le_of_ble_eq_true rfl⟩) (zpreV (q := (RX5, TX5, 7)) hE hs (xW_start hW) xC_U rfl) rfl rfl hl.1 rfl (lv_room (Nat.le_of_ble_eq_true rfl)) dX5_look_2 ⟨by show _ ≤ 2; omega, by show _ ≤ 8 * (2); omega⟩) hW (fun E ce q9 k2 H locs h hW hcell hv9 hcl9 => z_out hnt hlocks hcell hv9 hcl9 (hW.mono (xR_tr hle)) h (by omega) (by omega)) (fun r1 k2 H locs h hW => ?_)
  replace hW := hW.mono (xR_tr hle)
  refine W.widen (k := 0 + 1) (n := 8 * (0 + 1)) (by omega) (by omega) ?_
  obtain ⟨h, hk_3⟩ := h
  rcases eo_5 : r1 with _ | o4
  · replace h := h.1 eo_5
    refine lv_astore_nN (lv' := [(2, .null), (0, .ref S0), (1, .int p1)]) hx hb dX5_look_5 rfl hl (by decide) rfl (fun ls hl => ?_)
    refine lv_aload_nN hx hb dX5_look_6 rfl (lv_at hl 0 rfl) ?_
    exact h.elim
  · replace h := h.2 o4 eo_5
    have hc_6 : k2.2.2 o4 = 1 := hk_3 o4 eo_5
    refine lv_astore_n (lv' := [(2, .ref o4), (0, .ref S0), (1, .int p1)]) hx hb dX5_look_5 rfl hl (by decide) rfl (fun ls hl => ?_)
    refine lv_aload_n hx hb dX5_look_6 rfl (lv_at hl 0 rfl) ?_
    refine zw_get (C := RX1) (T := TX1) (N := 8) hx hb hts hin1 hown hE.1 hW (xC_C hc_6) rfl 4 (by decide) (hts (.fieldLink RX5 98 "UnionList$Copy" "onItsWay" "Z") (by decide +kernel)) (fun _ h9 => h9) rfl dX5_look_7 ?_
    refine lv_if_eq (tgt := 23) hx hb dX5_look_10 (by decide) (fun c_7 => ?_) (fun c_7 => ?_)
    · replace h := h.1 c_7
      refine lv_aload_n hx hb dX5_look_23 rfl (lv_at hl 1 rfl) ?_
      refine lv_aload_n hx hb dX5_look_24 rfl (lv_at hl 0 rfl) ?_
      have hle := xW_kle hW
      refine zc_i (va_runV (As := [.ref o4]) (rest := []) ⟨hx, hb, hml, hown, hts⟩ (cX5_examine_ok l hlt D S0 g k2 o4 hc_6 _ h) (cwV 1 hts gX5_look_X5_examine rfl rfl rfl (by decide +kernel) ⟨Nat.le_of_ble_eq_true rfl, Nat.le_of_ble_eq_true rfl⟩) (zpreV (q := (RX5, TX5, 7)) hE hs (xW_start hW) xC_U rfl) rfl rfl hl.1 rfl (lv_room (Nat.le_of_ble_eq_true rfl)) dX5_look_25 ⟨by show _ ≤ 2; omega, by show _ ≤ 8 * (2); omega⟩) hW (fun r8 k9 H locs h hW => ?_)
      replace hc_6 := kle_1 (xW_kle hW) hc_6
      replace hW := hW.mono (xR_tr hle)
      refine W.widen (k := 0 + 1) (n := 8 * (0 + 1)) (by omega) (by omega) ?_
      refine W.widen (k := 2) (n := 8 * (2)) (by omega) (by omega) ?_
      exact vx_ret (z_iret hx hb hr hlocks hW h dX5_look_28)
    · replace h := h.2 c_7
      exact z_throw (text := "it is on its way") hx hb hlt hown (by decide +kernel) (hts (.classLink RX5 61 "java/lang/IllegalStateException") (by decide +kernel)) (hts (.initialized "java/lang/IllegalStateException") (by decide +kernel)) (by decide +kernel) (vx_hatx hts hxt_X5_look_65 (by decide +kernel) (by decide +kernel) hE) (by decide +kernel) hE hW (fun n n' f q w => xR_mono n n' f q w) (hl.1.trans hml.symm) dX5_look_13 dX5_look_16 dX5_look_17 dX5_look_19 dX5_look_22 hnt (Nat.le_of_ble_eq_true rfl) (Nat.le_of_ble_eq_true rfl) (by have := h.1; show _ ≤ 2; omega) (by have := h.1; show _ ≤ 8 * (2); omega) hlocks h.2 (by have := h.1; omega) (by have := h.1; omega)

def wX5_mend (S0 : Nat) (k0 : kS) (p1 : Int32) (Q : kS → Prop) (QX : String → kS → Prop) : Prop := (wX5_copyNumbered S0 k0 p1 (fun r1 k2 => ((r1 = none → False) ∧ (∀ o4 : Nat, r1 = some o4 → (wX1_isAtHome S0 k2 o4 (fun r7 k8 => ((r7 = 0 → (0 + 1 + 1 ≤ 2 ∧ QX "java/lang/IllegalStateException" k8)) ∧ (¬ r7 = 0 → (((k8.1 17 o4) = 0 → (0 + 1 + 1 ≤ 2 ∧ QX "java/lang/IllegalStateException" k8)) ∧ (¬ (k8.1 17 o4) = 0 → (∀ k11 : kS, k11 = kset k8 16 o4 (-1) → (∀ k12 : kS, k12 = kset k11 17 o4 0 → (wX5_sendNews S0 k12 0 o4 (fun k14 => Q k14))))))))))))) QX)
theorem hin_X5_mend_1 : ∀ w ∈ u_ws RX1 TX1 8, w ∈ wsX5_mend := by decide +kernel
theorem hxt_X5_mend_65 : ∀ w ∈ (vx_atS RX5 65 "java/lang/IllegalStateException" ["java/lang/RuntimeException", "java/lang/Exception"]).filter goodWord, w ∈ wsX5_mend := by decide +kernel
set_option maxHeartbeats 8000000 in
set_option maxRecDepth 100000 in
theorem cX5_mend_ok (l : Launch) (hlt : l.stackTraces = false) (D : zD) (S0 : Nat) (g : zF) (k0 : kS) (p1 : Int32)  (Q : kS → Prop) (QX : String → kS → Prop) (h : wX5_mend S0 k0 p1 Q QX) : vx_Met l yX5_mend wsX5_mend { frames := 7, cells := 2, slots := 8 * (2), locals := 112 } (zPc D S0 (xR D S0 g k0 k0) [.ref S0, .int p1]) (va_Qv Q (zB D S0 (fun u => xR D S0 g k0 u)) (zA S0)) (zX D S0 (fun u => xR D S0 g k0 u) QX) (2) (8 * (2)) (zA S0) := by
  refine zMetX (cc := cX5_mend) (maxL := 3) (ret := none) (by decide) rfl (Nat.le_of_ble_eq_true rfl) (fun p e s m args below meth c ls hx hb hr hml hown hts hlocks hnm hnt hs hE hW hl => ?_)
  have hsz := xW_sz hW
  have hs0 : S0 ≤ s.heap.size := hs
  have hin1 := hin_X5_mend_1
  replace hl : lv_has ls 3 [(0, .ref S0), (1, .int p1)] := hl
  unfold wX5_mend at h
  refine lv_aload_n hx hb dX5_mend_0 rfl (lv_at hl 0 rfl) ?_
  refine lv_iload_n hx hb dX5_mend_1 rfl (lv_at hl 1 rfl) ?_
  have hle := xW_kle hW
  refine zxc_q (vx_runV (As := [.int p1]) (rest := []) ⟨hx, hb, hml, hown, hts⟩ (cX5_copyNumbered_ok l hlt D S0 g k0 p1 _ _ h) (cwV 1 hts gX5_mend_X5_copyNumbered rfl rfl rfl (by decide +kernel) ⟨Nat.le_of_ble_eq_true rfl, Nat.le_of_ble_eq_true rfl⟩) (zpreV (q := (RX5, TX5, 7)) hE hs (xW_start hW) xC_U rfl) rfl rfl hl.1 rfl (lv_room (Nat.le_of_ble_eq_true rfl)) dX5_mend_2 ⟨by show _ ≤ 2; omega, by show _ ≤ 8 * (2); omega⟩) hW (fun E ce q9 k2 H locs h hW hcell hv9 hcl9 => z_out hnt hlocks hcell hv9 hcl9 (hW.mono (xR_tr hle)) h (by omega) (by omega)) (fun r1 k2 H locs h hW => ?_)
  replace hW := hW.mono (xR_tr hle)
  refine W.widen (k := 0 + 1) (n := 8 * (0 + 1)) (by omega) (by omega) ?_
  obtain ⟨h, hk_3⟩ := h
  rcases eo_5 : r1 with _ | o4
  · replace h := h.1 eo_5
    refine lv_astore_nN (lv' := [(2, .null), (0, .ref S0), (1, .int p1)]) hx hb dX5_mend_5 rfl hl (by decide) rfl (fun ls hl => ?_)
    refine lv_aload_nN hx hb dX5_mend_6 rfl (lv_at hl 0 rfl) ?_
    exact h.elim
  · replace h := h.2 o4 eo_5
    have hc_6 : k2.2.2 o4 = 1 := hk_3 o4 eo_5
    refine lv_astore_n (lv' := [(2, .ref o4), (0, .ref S0), (1, .int p1)]) hx hb dX5_mend_5 rfl hl (by decide) rfl (fun ls hl => ?_)
    refine lv_aload_n hx hb dX5_mend_6 rfl (lv_at hl 0 rfl) ?_
    have hle := xW_kle hW
    refine zc_i (va_runV (As := []) (rest := []) ⟨hx, hb, hml, hown, hts⟩ (cX1_isAtHome_ok l hlt D S0 g k2 o4 hc_6 _ h) (cwV 0 hts gX5_mend_X1_isAtHome rfl rfl rfl (by decide +kernel) ⟨Nat.le_of_ble_eq_true rfl, Nat.le_of_ble_eq_true rfl⟩) (zpreV (q := (RX1, TX1, 8)) hE hs (xW_start hW) (xC_C hc_6) rfl) rfl rfl hl.1 rfl (lv_room (Nat.le_of_ble_eq_true rfl)) dX5_mend_7 ⟨by show _ ≤ 2; omega, by show _ ≤ 8 * (2); omega⟩) hW (fun r7 k8 H locs h hW => ?_)
    obtain ⟨h, hz_r7⟩ := h
    replace hc_6 := kle_1 (xW_kle hW) hc_6
    replace hW := hW.mono (xR_tr hle)
    refine W.widen (k := 0 + 1) (n := 8 * (0 + 1)) (by omega) (by omega) ?_
    refine lv_if_eq (tgt := 20) hx hb dX5_mend_10 (by decide) (fun c_9 => ?_) (fun c_9 => ?_)
    · replace h := h.1 c_9
      exact z_throw (text := "it is not at home, or no harm is known") hx hb hlt hown (by decide +kernel) (hts (.classLink RX5 61 "java/lang/IllegalStateException") (by decide +kernel)) (hts (.initialized "java/lang/IllegalStateException") (by decide +kernel)) (by decide +kernel) (vx_hatx hts hxt_X5_mend_65 (by decide +kernel) (by decide +kernel) hE) (by decide +kernel) hE hW (fun n n' f q w => xR_mono n n' f q w) (hl.1.trans hml.symm) dX5_mend_20 dX5_mend_23 dX5_mend_24 dX5_mend_26 dX5_mend_29 hnt (Nat.le_of_ble_eq_true rfl) (Nat.le_of_ble_eq_true rfl) (by have := h.1; show _ ≤ 2; omega) (by have := h.1; show _ ≤ 8 * (2); omega) hlocks h.2 (by have := h.1; omega) (by have := h.1; omega)
    · replace h := h.2 c_9
      refine lv_aload_n hx hb dX5_mend_13 rfl (lv_at hl 0 rfl) ?_
      refine zw_get (C := RX1) (T := TX1) (N := 8) hx hb hts hin1 hown hE.1 hW (xC_C hc_6) rfl 7 (by decide) (hts (.fieldLink RX5 111 "UnionList$Copy" "harmKnown" "Z") (by decide +kernel)) (fun _ h9 => h9) rfl dX5_mend_14 ?_
      refine lv_if_ne (tgt := 30) hx hb dX5_mend_17 (by decide) (fun c_10 => ?_) (fun c_10 => ?_)
      · replace h := h.2 c_10
        refine lv_aload_n hx hb dX5_mend_30 rfl (lv_at hl 0 rfl) ?_
        refine lv_iconst (v := (-1)) hx hb dX5_mend_31 (by decide) ?_
        refine zw_put (C := RX1) (T := TX1) (N := 8) hx hb hts hin1 tyX1 tyX1_ok nmX1 hown hE.1 hW (xC_C hc_6) rfl 6 (by decide) (hts (.fieldLink RX5 95 "UnionList$Copy" "harmedBy" "I") (by decide +kernel)) (fun _ h9 => h9) rfl rfl rfl (Nat.le_of_ble_eq_true rfl) dX5_mend_32 (xP_C6 hc_6) (fun H locs hW => ?_)
        obtain ⟨k11, ek11⟩ : ∃ y, y = kset k8 16 o4 (-1) := ⟨_, rfl⟩
        rw [← ek11] at hW
        replace h := h k11 ek11
        replace hc_6 : k11.2.2 o4 = 1 := by rw [ek11]; exact hc_6
        refine lv_aload_n hx hb dX5_mend_35 rfl (lv_at hl 0 rfl) ?_
        refine lv_iconst (v := 0) hx hb dX5_mend_36 (by decide) ?_
        refine zw_put (C := RX1) (T := TX1) (N := 8) hx hb hts hin1 tyX1 tyX1_ok nmX1 hown hE.1 hW (xC_C hc_6) rfl 7 (by decide) (hts (.fieldLink RX5 111 "UnionList$Copy" "harmKnown" "Z") (by decide +kernel)) (fun _ h9 => h9) rfl rfl rfl (Nat.le_of_ble_eq_true rfl) dX5_mend_37 (xP_C7 hc_6) (fun H locs hW => ?_)
        obtain ⟨k12, ek12⟩ : ∃ y, y = kset k11 17 o4 0 := ⟨_, rfl⟩
        rw [← ek12] at hW
        replace h := h k12 ek12
        replace hc_6 : k12.2.2 o4 = 1 := by rw [ek12]; exact hc_6
        refine lv_aload_n hx hb dX5_mend_40 rfl (lv_at hl 1 rfl) ?_
        refine lv_iconst (v := 0) hx hb dX5_mend_41 (by decide) ?_
        refine lv_aload_n hx hb dX5_mend_42 rfl (lv_at hl 0 rfl) ?_
        have hle := xW_kle hW
        refine zc_v (va_runV (As := [.int 0, .ref o4]) (rest := []) ⟨hx, hb, hml, hown, hts⟩ (cX5_sendNews_ok l hlt D S0 g k12 0 o4 hc_6 _ h) (cwV 2 hts gX5_mend_X5_sendNews rfl rfl rfl (by decide +kernel) ⟨Nat.le_of_ble_eq_true rfl, Nat.le_of_ble_eq_true rfl⟩) (zpreV (q := (RX5, TX5, 7)) hE hs (xW_start hW) xC_U rfl) rfl rfl hl.1 rfl (lv_room (Nat.le_of_ble_eq_true rfl)) dX5_mend_43 ⟨by show _ ≤ 2; omega, by show _ ≤ 8 * (2); omega⟩) hW (fun k14 H locs h hW => ?_)
        replace hc_6 := kle_1 (xW_kle hW) hc_6
        replace hW := hW.mono (xR_tr hle)
        refine W.widen (k := 0 + 1 + 1) (n := 8 * (0 + 1 + 1)) (by omega) (by omega) ?_
        refine W.widen (k := 2) (n := 8 * (2)) (by omega) (by omega) ?_
        exact vx_ret (z_vret hx hb hr hlocks hW h dX5_mend_46)
      · replace h := h.1 c_10
        exact z_throw (text := "it is not at home, or no harm is known") hx hb hlt hown (by decide +kernel) (hts (.classLink RX5 61 "java/lang/IllegalStateException") (by decide +kernel)) (hts (.initialized "java/lang/IllegalStateException") (by decide +kernel)) (by decide +kernel) (vx_hatx hts hxt_X5_mend_65 (by decide +kernel) (by decide +kernel) hE) (by decide +kernel) hE hW (fun n n' f q w => xR_mono n n' f q w) (hl.1.trans hml.symm) dX5_mend_20 dX5_mend_23 dX5_mend_24 dX5_mend_26 dX5_mend_29 hnt (Nat.le_of_ble_eq_true rfl) (Nat.le_of_ble_eq_true rfl) (by have := h.1; show _ ≤ 2; omega) (by have := h.1; show _ ≤ 8 * (2); omega) hlocks h.2 (by have := h.1; omega) (by have := h.1; omega)
