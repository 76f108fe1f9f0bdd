def wX5_request (S0 : Nat) (k0 : kS) (p1 : Int32) (p2 : Int32) (Q : Int32 → kS → Prop) (QX : String → kS → Prop) : Prop := (wX5_isHouse S0 k0 p1 (fun r1 k2 => ((r1 = 0 → (0 + 1 ≤ 2 ∧ QX "java/lang/IllegalArgumentException" k2)) ∧ (¬ r1 = 0 → (wX5_isTitle S0 k2 p2 (fun r4 k5 => ((r4 = 0 → (0 + 1 ≤ 2 ∧ QX "java/lang/IllegalArgumentException" k5)) ∧ (¬ r4 = 0 → (((k5.1 1 0) < 0 → (0 + 1 ≤ 2 ∧ QX "java/lang/IllegalStateException" k5)) ∧ (¬ (k5.1 1 0) < 0 → (((k5.1 1 0) < 40 → (0 + 1 ≤ 2 ∧ ∀ q9 : Nat, k5.2.2 q9 = 0 → S0 + 9 ≤ q9 → ∀ k13 : kS, k13 = knew k5 q9 3 → (wX3_init S0 k13 q9 p1 p2 (fun k16 => (vp_in (k5.1 1 0) 40 ∧ (∀ k18 : kS, k18 = kptr k16 1 (k5.1 1 0).toNatClampNeg (some q9) → (∀ k19 : kS, k19 = kset k18 1 0 ((k5.1 1 0) + 1) → (wX5_askNextHome S0 k19 q9 (fun k21 => Q (k5.1 1 0) k21))))))))) ∧ (¬ (k5.1 1 0) < 40 → (0 + 1 ≤ 2 ∧ QX "java/lang/IllegalStateException" k5)))))))))))))
theorem hin_X5_request_3 : ∀ w ∈ u_ws RX3 TX3 7, w ∈ wsX5_request := by decide +kernel
theorem hin_X5_request_5 : ∀ w ∈ u_ws RX5 TX5 7, w ∈ wsX5_request := by decide +kernel
theorem hxt_X5_request_58 : ∀ w ∈ (vx_atS RX5 58 "java/lang/IllegalArgumentException" ["java/lang/RuntimeException", "java/lang/Exception"]).filter goodWord, w ∈ wsX5_request := by decide +kernel
theorem hxt_X5_request_65 : ∀ w ∈ (vx_atS RX5 65 "java/lang/IllegalStateException" ["java/lang/RuntimeException", "java/lang/Exception"]).filter goodWord, w ∈ wsX5_request := by decide +kernel
set_option maxHeartbeats 8000000 in
set_option maxRecDepth 100000 in
theorem cX5_request_ok (l : Launch) (hlt : l.stackTraces = false) (D : zD) (S0 : Nat) (g : zF) (k0 : kS) (p1 : Int32) (p2 : Int32)  (Q : Int32 → kS → Prop) (QX : String → kS → Prop) (h : wX5_request S0 k0 p1 p2 Q QX) : vx_Met l yX5_request wsX5_request { frames := 6, cells := 2, slots := 8 * (2), locals := 93 } (zPc D S0 (xR D S0 g k0 k0) [.ref S0, .int p1, .int p2]) (va_Qi Q (zB D S0 (fun u => xR D S0 g k0 u)) (zA S0)) (zX D S0 (fun u => xR D S0 g k0 u) QX) (2) (8 * (2)) (zA S0) := by
  refine zMetX (cc := cX5_request) (maxL := 5) (ret := (some .int)) (by decide) rfl (Nat.le_of_ble_eq_true rfl) (fun p e s m args below meth c ls hx hb hr hml hown hts hlocks hnm hnt hs hE hW hl => ?_)
  have hsz := xW_sz hW
  have hs0 : S0 ≤ s.heap.size := hs
  have hin3 := hin_X5_request_3
  have hin5 := hin_X5_request_5
  replace hl : lv_has ls 5 [(0, .ref S0), (1, .int p1), (2, .int p2)] := hl
  unfold wX5_request at h
  refine lv_iload_n hx hb dX5_request_0 rfl (lv_at hl 1 rfl) ?_
  have hle := xW_kle hW
  refine zc_i (va_runS (As := [.int p1]) (rest := []) ⟨hx, hb, hml, hown, hts⟩ (cX5_isHouse_ok l hlt D S0 g k0 p1 _ h) (va_cwS 1 hts gX5_request_X5_isHouse rfl rfl rfl (by decide +kernel) ⟨Nat.le_of_ble_eq_true rfl, Nat.le_of_ble_eq_true rfl⟩) (zpreS hE hs (xW_start hW)) rfl rfl hl.1 rfl (lv_room (Nat.le_of_ble_eq_true rfl)) dX5_request_1 ⟨by show _ ≤ 2; omega, by show _ ≤ 8 * (2); omega⟩) hW (fun r1 k2 H locs h hW => ?_)
  obtain ⟨h, hz_r1⟩ := h
  replace hW := hW.mono (xR_tr hle)
  refine W.widen (k := 0) (n := 8 * (0)) (by omega) (by omega) ?_
  refine lv_if_eq (tgt := 14) hx hb dX5_request_4 (by decide) (fun c_3 => ?_) (fun c_3 => ?_)
  · replace h := h.1 c_3
    exact z_throw (text := "house or title is out of range") hx hb hlt hown (by decide +kernel) (hts (.classLink RX5 54 "java/lang/IllegalArgumentException") (by decide +kernel)) (hts (.initialized "java/lang/IllegalArgumentException") (by decide +kernel)) (by decide +kernel) (vx_hatx hts hxt_X5_request_58 (by decide +kernel) (by decide +kernel) hE) (by decide +kernel) hE hW (fun n n' f q w => xR_mono n n' f q w) (hl.1.trans hml.symm) dX5_request_14 dX5_request_17 dX5_request_18 dX5_request_20 dX5_request_23 hnt (Nat.le_of_ble_eq_true rfl) (Nat.le_of_ble_eq_true rfl) (by have := h.1; show _ ≤ 2; omega) (by have := h.1; show _ ≤ 8 * (2); omega) hlocks h.2 (by have := h.1; omega) (by have := h.1; omega)
  · replace h := h.2 c_3
    refine lv_iload_n hx hb dX5_request_7 rfl (lv_at hl 2 rfl) ?_
    have hle := xW_kle hW
    refine zc_i (va_runS (As := [.int p2]) (rest := []) ⟨hx, hb, hml, hown, hts⟩ (cX5_isTitle_ok l hlt D S0 g k2 p2 _ h) (va_cwS 1 hts gX5_request_X5_isTitle rfl rfl rfl (by decide +kernel) ⟨Nat.le_of_ble_eq_true rfl, Nat.le_of_ble_eq_true rfl⟩) (zpreS hE hs (xW_start hW)) rfl rfl hl.1 rfl (lv_room (Nat.le_of_ble_eq_true rfl)) dX5_request_8 ⟨by show _ ≤ 2; omega, by show _ ≤ 8 * (2); omega⟩) hW (fun r4 k5 H locs h hW => ?_)
    obtain ⟨h, hz_r4⟩ := h
    replace hW := hW.mono (xR_tr hle)
    refine W.widen (k := 0) (n := 8 * (0)) (by omega) (by omega) ?_
    refine lv_if_ne (tgt := 24) hx hb dX5_request_11 (by decide) (fun c_6 => ?_) (fun c_6 => ?_)
    · replace h := h.2 c_6
      refine lv_aload_n hx hb dX5_request_24 rfl (lv_at hl 0 rfl) ?_
      refine zw_get (C := RX5) (T := TX5) (N := 7) hx hb hts hin5 hown hE.1 hW xC_U rfl 5 (by decide) (hts (.fieldLink RX5 41 "UnionList" "requestCount" "I") (by decide +kernel)) (fun _ h9 => h9) rfl dX5_request_25 ?_
      refine lv_istore_n (lv' := [(3, .int (k5.1 1 0)), (0, .ref S0), (1, .int p1), (2, .int p2)]) hx hb dX5_request_28 rfl hl (by decide) rfl (fun ls hl => ?_)
      refine lv_iload_n hx hb dX5_request_29 rfl (lv_at hl 0 rfl) ?_
      refine lv_if_lt (tgt := 42) hx hb dX5_request_30 (by decide) (fun c_7 => ?_) (fun c_7 => ?_)
      · replace h := h.1 c_7
        exact z_throw (text := "40 requests were made") hx hb hlt hown (by decide +kernel) (hts (.classLink RX5 61 "java/lang/IllegalStateException") (by decide +kernel)) (hts (.initialized "java/lang/IllegalStateException") (by decide +kernel)) (by decide +kernel) (vx_hatx hts hxt_X5_request_65 (by decide +kernel) (by decide +kernel) hE) (by decide +kernel) hE hW (fun n n' f q w => xR_mono n n' f q w) (hl.1.trans hml.symm) dX5_request_42 dX5_request_45 dX5_request_46 dX5_request_48 dX5_request_51 hnt (Nat.le_of_ble_eq_true rfl) (Nat.le_of_ble_eq_true rfl) (by have := h.1; show _ ≤ 2; omega) (by have := h.1; show _ ≤ 8 * (2); omega) hlocks h.2 (by have := h.1; omega) (by have := h.1; omega)
      · replace h := h.2 c_7
        refine lv_iload_n hx hb dX5_request_33 rfl (lv_at hl 0 rfl) ?_
        refine lv_aload_n hx hb dX5_request_34 rfl (lv_at hl 1 rfl) ?_
        refine zw_get (C := RX5) (T := TX5) (N := 7) hx hb hts hin5 hown hE.1 hW xC_U rfl 1 (by decide) (hts (.fieldLink RX5 17 "UnionList" "requests" "[LUnionList$Request;") (by decide +kernel)) (fun _ h9 => h9) rfl dX5_request_35 ?_
        refine zw_alen (v := 40) hx hb hE.1 hW 2 rfl xC_q1 rfl dX5_request_38 ?_
        refine lv_icmp_lt (tgt := 52) hx hb dX5_request_39 (by decide) (fun c_8 => ?_) (fun c_8 => ?_)
        · replace h := h.1 c_8
          obtain ⟨hb_10, h⟩ := h
          refine zw_new (ci := 3) (C := RX3) (T := TX3) (N := 7) (fs := [.int 0, .int 0, .null, .int 0, .int 0, .int 0, .int 0]) hx hb hts hin3 tyX3 tyX3_ok hown (hts (.classLink RX5 15 RX3) (by decide +kernel)) (hts (.instantiable RX3 7) (by decide +kernel)) (hts (.initialized RX3) (by decide +kernel)) hE.1 hW hs0 rfl (fun j hj => by rcases (show j = 0 ∨ j = 1 ∨ j = 2 ∨ j = 3 ∨ j = 4 ∨ j = 5 ∨ j = 6 by omega) with rfl | rfl | rfl | rfl | rfl | rfl | rfl <;> rfl) hb_10 (by show _ ≤ 8 * (2); omega) dX5_request_52 (fun q9 H hW hq_12 => ?_)
          refine W.widen (k := 0 + 1) (n := 8 * (0 + 1)) (Nat.le_refl _) (by omega) ?_
          replace hq_12 : S0 + 9 ≤ q9 := Nat.le_trans hsz hq_12
          obtain ⟨h0_11, hW⟩ := xW_newR hW hq_12
          obtain ⟨k13, ek13⟩ : ∃ y, y = knew k5 q9 3 := ⟨_, rfl⟩
          rw [← ek13] at hW
          replace h := h q9 h0_11 hq_12 k13 ek13
          have hc_14 : k13.2.2 q9 = 3 := by rw [ek13]; exact knew_q _ _ _
          refine lv_dup hx hb dX5_request_55 rfl ?_
          refine lv_iload_n hx hb dX5_request_56 rfl (lv_at hl 2 rfl) ?_
          refine lv_iload_n hx hb dX5_request_57 rfl (lv_at hl 3 rfl) ?_
          have hle := xW_kle hW
          refine zc_v (va_runI (As := [.int p1, .int p2]) (rest := [.ref q9]) ⟨hx, hb, hml, hown, hts⟩ (cX3_init_ok l hlt D S0 g k13 q9 p1 p2 hc_14 _ h) (cwI 2 hts gX5_request_X3_init rfl rfl rfl (hts (.initialized RX3) (by decide +kernel)) (hts (.methodLink RX5 120 yX3_init) (by decide +kernel)) (hts (.instanceMethod yX3_init) (by decide +kernel)) rfl (by decide +kernel) ⟨Nat.le_of_ble_eq_true rfl, Nat.le_of_ble_eq_true rfl⟩) (zpreS hE hs (xW_start hW)) rfl rfl hl.1 rfl (lv_room (Nat.le_of_ble_eq_true rfl)) dX5_request_58 ⟨by show _ ≤ 2; omega, by show _ ≤ 8 * (2); omega⟩) hW (fun k16 H locs h hW => ?_)
          replace hc_14 := kle_3 (xW_kle hW) hc_14
          replace hW := hW.mono (xR_tr hle)
          refine W.widen (k := 0 + 1) (n := 8 * (0 + 1)) (by omega) (by omega) ?_
          refine lv_astore (lv' := [(4, .ref q9), (3, .int (k5.1 1 0)), (0, .ref S0), (1, .int p1), (2, .int p2)]) hx hb dX5_request_61 hl (by decide) rfl (fun ls hl => ?_)
          refine lv_aload_n hx hb dX5_request_63 rfl (lv_at hl 2 rfl) ?_
          refine zw_get (C := RX5) (T := TX5) (N := 7) hx hb hts hin5 hown hE.1 hW xC_U rfl 1 (by decide) (hts (.fieldLink RX5 17 "UnionList" "requests" "[LUnionList$Request;") (by decide +kernel)) (fun _ h9 => h9) rfl dX5_request_64 ?_
          refine lv_iload_n hx hb dX5_request_67 rfl (lv_at hl 1 rfl) ?_
          refine lv_aload hx hb dX5_request_68 (lv_at hl 0 rfl) ?_
          obtain ⟨hb_17, h⟩ := h
          refine zw_astq (r := (RX3, TX3, 7)) hx hb hE.1 hW 2 rfl xC_q1 (xC_R hc_14) rfl hb_17 dX5_request_70 (xP_q1 (fun _ h9 => by cases h9; exact hc_14)) (fun H locs hW => ?_)
          obtain ⟨k18, ek18⟩ : ∃ y, y = kptr k16 1 (k5.1 1 0).toNatClampNeg (some q9) := ⟨_, rfl⟩
          rw [← ek18] at hW
          replace h := h k18 ek18
          replace hc_14 : k18.2.2 q9 = 3 := by rw [ek18]; exact hc_14
          refine lv_aload_n hx hb dX5_request_71 rfl (lv_at hl 2 rfl) ?_
          refine lv_iload_n hx hb dX5_request_72 rfl (lv_at hl 1 rfl) ?_
          refine lv_iconst (v := 1) hx hb dX5_request_73 (by decide) ?_
          refine lv_iadd hx hb dX5_request_74 ?_
          refine zw_put (C := RX5) (T := TX5) (N := 7) hx hb hts hin5 tyX5 tyX5_ok nmX5 hown hE.1 hW xC_U rfl 5 (by decide) (hts (.fieldLink RX5 41 "UnionList" "requestCount" "I") (by decide +kernel)) (fun _ h9 => h9) rfl rfl rfl (Nat.le_of_ble_eq_true rfl) dX5_request_75 xP_U5 (fun H locs hW => ?_)
          obtain ⟨k19, ek19⟩ : ∃ y, y = kset k18 1 0 ((k5.1 1 0) + 1) := ⟨_, rfl⟩
          rw [← ek19] at hW
          replace h := h k19 ek19
          replace hc_14 : k19.2.2 q9 = 3 := by rw [ek19]; exact hc_14
          refine lv_aload_n hx hb dX5_request_78 rfl (lv_at hl 2 rfl) ?_
          refine lv_aload hx hb dX5_request_79 (lv_at hl 0 rfl) ?_
          have hle := xW_kle hW
          refine zc_v (va_runV (As := [.ref q9]) (rest := []) ⟨hx, hb, hml, hown, hts⟩ (cX5_askNextHome_ok l hlt D S0 g k19 q9 hc_14 _ h) (cwV 1 hts gX5_request_X5_askNextHome rfl rfl rfl (by decide +kernel) ⟨Nat.le_of_ble_eq_true rfl, Nat.le_of_ble_eq_true rfl⟩) (zpreV (q := (RX5, TX5, 7)) hE hs (xW_start hW) xC_U rfl) rfl rfl hl.1 rfl (lv_room (Nat.le_of_ble_eq_true rfl)) dX5_request_81 ⟨by show _ ≤ 2; omega, by show _ ≤ 8 * (2); omega⟩) hW (fun k21 H locs h hW => ?_)
          replace hc_14 := kle_3 (xW_kle hW) hc_14
          replace hW := hW.mono (xR_tr hle)
          refine W.widen (k := 0 + 1 + 1) (n := 8 * (0 + 1 + 1)) (by omega) (by omega) ?_
          refine lv_iload_n hx hb dX5_request_84 rfl (lv_at hl 1 rfl) ?_
          refine W.widen (k := 2) (n := 8 * (2)) (by omega) (by omega) ?_
          exact vx_ret (z_iret hx hb hr hlocks hW h dX5_request_85)
        · replace h := h.2 c_8
          exact z_throw (text := "40 requests were made") hx hb hlt hown (by decide +kernel) (hts (.classLink RX5 61 "java/lang/IllegalStateException") (by decide +kernel)) (hts (.initialized "java/lang/IllegalStateException") (by decide +kernel)) (by decide +kernel) (vx_hatx hts hxt_X5_request_65 (by decide +kernel) (by decide +kernel) hE) (by decide +kernel) hE hW (fun n n' f q w => xR_mono n n' f q w) (hl.1.trans hml.symm) dX5_request_42 dX5_request_45 dX5_request_46 dX5_request_48 dX5_request_51 hnt (Nat.le_of_ble_eq_true rfl) (Nat.le_of_ble_eq_true rfl) (by have := h.1; show _ ≤ 2; omega) (by have := h.1; show _ ≤ 8 * (2); omega) hlocks h.2 (by have := h.1; omega) (by have := h.1; omega)
    · replace h := h.1 c_6
      exact z_throw (text := "house or title is out of range") hx hb hlt hown (by decide +kernel) (hts (.classLink RX5 54 "java/lang/IllegalArgumentException") (by decide +kernel)) (hts (.initialized "java/lang/IllegalArgumentException") (by decide +kernel)) (by decide +kernel) (vx_hatx hts hxt_X5_request_58 (by decide +kernel) (by decide +kernel) hE) (by decide +kernel) hE hW (fun n n' f q w => xR_mono n n' f q w) (hl.1.trans hml.symm) dX5_request_14 dX5_request_17 dX5_request_18 dX5_request_20 dX5_request_23 hnt (Nat.le_of_ble_eq_true rfl) (Nat.le_of_ble_eq_true rfl) (by have := h.1; show _ ≤ 2; omega) (by have := h.1; show _ ≤ 8 * (2); omega) hlocks h.2 (by have := h.1; omega) (by have := h.1; omega)

def wX5_state (S0 : Nat) (k0 : kS) (p1 : Int32) (Q : Int32 → kS → Prop) (QX : String → kS → Prop) : Prop := (wX5_requestNumbered S0 k0 p1 (fun r1 k2 => ((r1 = none → False) ∧ (∀ o4 : Nat, r1 = some o4 → Q (k2.1 23 o4) k2))) QX)
theorem hin_X5_state_3 : ∀ w ∈ u_ws RX3 TX3 7, w ∈ wsX5_state := by decide +kernel
set_option maxHeartbeats 8000000 in
set_option maxRecDepth 100000 in
theorem cX5_state_ok (l : Launch) (hlt : l.stackTraces = false) (D : zD) (S0 : Nat) (g : zF) (k0 : kS) (p1 : Int32)  (Q : Int32 → kS → Prop) (QX : String → kS → Prop) (h : wX5_state S0 k0 p1 Q QX) : vx_Met l yX5_state wsX5_state { frames := 7, cells := 1, slots := 8 * (1), locals := 112 } (zPc D S0 (xR D S0 g k0 k0) [.ref S0, .int p1]) (va_Qi Q (zB D S0 (fun u => xR D S0 g k0 u)) (zA S0)) (zX D S0 (fun u => xR D S0 g k0 u) QX) (1) (8 * (1)) (zA S0) := by
  refine zMetX (cc := cX5_state) (maxL := 2) (ret := (some .int)) (by decide) rfl (Nat.le_of_ble_eq_true rfl) (fun p e s m args below meth c ls hx hb hr hml hown hts hlocks hnm hnt hs hE hW hl => ?_)
  have hsz := xW_sz hW
  have hs0 : S0 ≤ s.heap.size := hs
  have hin3 := hin_X5_state_3
  replace hl : lv_has ls 2 [(0, .ref S0), (1, .int p1)] := hl
  unfold wX5_state at h
  refine lv_aload_n hx hb dX5_state_0 rfl (lv_at hl 0 rfl) ?_
  refine lv_iload_n hx hb dX5_state_1 rfl (lv_at hl 1 rfl) ?_
  have hle := xW_kle hW
  refine zxc_q (vx_runV (As := [.int p1]) (rest := []) ⟨hx, hb, hml, hown, hts⟩ (cX5_requestNumbered_ok l hlt D S0 g k0 p1 _ _ h) (cwV 1 hts gX5_state_X5_requestNumbered rfl rfl rfl (by decide +kernel) ⟨Nat.le_of_ble_eq_true rfl, Nat.le_of_ble_eq_true rfl⟩) (zpreV (q := (RX5, TX5, 7)) hE hs (xW_start hW) xC_U rfl) rfl rfl hl.1 rfl (lv_room (Nat.le_of_ble_eq_true rfl)) dX5_state_2 ⟨by show _ ≤ 1; omega, by show _ ≤ 8 * (1); omega⟩) hW (fun E ce q9 k2 H locs h hW hcell hv9 hcl9 => z_out hnt hlocks hcell hv9 hcl9 (hW.mono (xR_tr hle)) h (by omega) (by omega)) (fun r1 k2 H locs h hW => ?_)
  replace hW := hW.mono (xR_tr hle)
  refine W.widen (k := 0 + 1) (n := 8 * (0 + 1)) (by omega) (by omega) ?_
  obtain ⟨h, hk_3⟩ := h
  rcases eo_5 : r1 with _ | o4
  · replace h := h.1 eo_5
    exact h.elim
  · replace h := h.2 o4 eo_5
    have hc_6 : k2.2.2 o4 = 3 := hk_3 o4 eo_5
    refine zw_get (C := RX3) (T := TX3) (N := 7) hx hb hts hin3 hown hE.1 hW (xC_R hc_6) rfl 3 (by decide) (hts (.fieldLink RX5 131 "UnionList$Request" "state" "I") (by decide +kernel)) (fun _ h9 => h9) rfl dX5_state_5 ?_
    refine W.widen (k := 1) (n := 8 * (1)) (by omega) (by omega) ?_
    exact vx_ret (z_iret hx hb hr hlocks hW h dX5_state_8)

def wX5_copyOf (S0 : Nat) (k0 : kS) (p1 : Int32) (Q : Int32 → kS → Prop) (QX : String → kS → Prop) : Prop := (wX5_requestNumbered S0 k0 p1 (fun r1 k2 => ((r1 = none → False) ∧ (∀ o4 : Nat, r1 = some o4 → (((k2.2.1 22 o4) = none → Q (-1) k2) ∧ (∀ o7 : Nat, (k2.2.1 22 o4) = some o7 → Q (k2.1 10 o7) k2))))) QX)
theorem hin_X5_copyOf_1 : ∀ w ∈ u_ws RX1 TX1 8, w ∈ wsX5_copyOf := by decide +kernel
theorem hin_X5_copyOf_3 : ∀ w ∈ u_ws RX3 TX3 7, w ∈ wsX5_copyOf := by decide +kernel
set_option maxHeartbeats 8000000 in
set_option maxRecDepth 100000 in
theorem cX5_copyOf_ok (l : Launch) (hlt : l.stackTraces = false) (D : zD) (S0 : Nat) (g : zF) (k0 : kS) (p1 : Int32)  (Q : Int32 → kS → Prop) (QX : String → kS → Prop) (h : wX5_copyOf S0 k0 p1 Q QX) : vx_Met l yX5_copyOf wsX5_copyOf { frames := 7, cells := 1, slots := 8 * (1), locals := 112 } (zPc D S0 (xR D S0 g k0 k0) [.ref S0, .int p1]) (va_Qi Q (zB D S0 (fun u => xR D S0 g k0 u)) (zA S0)) (zX D S0 (fun u => xR D S0 g k0 u) QX) (1) (8 * (1)) (zA S0) := by
  refine zMetX (cc := cX5_copyOf) (maxL := 3) (ret := (some .int)) (by decide) rfl (Nat.le_of_ble_eq_true rfl) (fun p e s m args below meth c ls hx hb hr hml hown hts hlocks hnm hnt hs hE hW hl => ?_)
  have hsz := xW_sz hW
  have hs0 : S0 ≤ s.heap.size := hs
  have hin1 := hin_X5_copyOf_1
  have hin3 := hin_X5_copyOf_3
  replace hl : lv_has ls 3 [(0, .ref S0), (1, .int p1)] := hl
  unfold wX5_copyOf at h
  refine lv_aload_n hx hb dX5_copyOf_0 rfl (lv_at hl 0 rfl) ?_
  refine lv_iload_n hx hb dX5_copyOf_1 rfl (lv_at hl 1 rfl) ?_
  have hle := xW_kle hW
  refine zxc_q (vx_runV (As := [.int p1]) (rest := []) ⟨hx, hb, hml, hown, hts⟩ (cX5_requestNumbered_ok l hlt D S0 g k0 p1 _ _ h) (cwV 1 hts gX5_copyOf_X5_requestNumbered rfl rfl rfl (by decide +kernel) ⟨Nat.le_of_ble_eq_true rfl, Nat.le_of_ble_eq_true rfl⟩) (zpreV (q := (RX5, TX5, 7)) hE hs (xW_start hW) xC_U rfl) rfl rfl hl.1 rfl (lv_room (Nat.le_of_ble_eq_true rfl)) dX5_copyOf_2 ⟨by show _ ≤ 1; omega, by show _ ≤ 8 * (1); omega⟩) hW (fun E ce q9 k2 H locs h hW hcell hv9 hcl9 => z_out hnt hlocks hcell hv9 hcl9 (hW.mono (xR_tr hle)) h (by omega) (by omega)) (fun r1 k2 H locs h hW => ?_)
  replace hW := hW.mono (xR_tr hle)
  refine W.widen (k := 0 + 1) (n := 8 * (0 + 1)) (by omega) (by omega) ?_
  obtain ⟨h, hk_3⟩ := h
  rcases eo_5 : r1 with _ | o4
  · replace h := h.1 eo_5
    exact h.elim
  · replace h := h.2 o4 eo_5
    have hc_6 : k2.2.2 o4 = 3 := hk_3 o4 eo_5
    refine zw_get (C := RX3) (T := TX3) (N := 7) hx hb hts hin3 hown hE.1 hW (xC_R hc_6) rfl 2 (by decide) (hts (.fieldLink RX5 134 "UnionList$Request" "copy" "LUnionList$Copy;") (by decide +kernel)) (fun _ h9 => h9) rfl dX5_copyOf_5 ?_
    rcases eo_8 : (k2.2.1 22 o4) with _ | o7
    · replace h := h.1 eo_8
      refine lv_astore_nN (lv' := [(2, .null), (0, .ref S0), (1, .int p1)]) hx hb dX5_copyOf_8 rfl hl (by decide) rfl (fun ls hl => ?_)
      refine lv_aload_nN hx hb dX5_copyOf_9 rfl (lv_at hl 0 rfl) ?_
      refine lv_ifnonnullN hx hb dX5_copyOf_10 ?_
      refine lv_iconst (v := (-1)) hx hb dX5_copyOf_13 (by decide) ?_
      refine lv_goto (tgt := 21) hx hb dX5_copyOf_14 (by decide) ?_
      refine W.widen (k := 1) (n := 8 * (1)) (by omega) (by omega) ?_
      exact vx_ret (z_iret hx hb hr hlocks hW h dX5_copyOf_21)
    · replace h := h.2 o7 eo_8
      have hc_9 : k2.2.2 o7 = 1 := (xW_T hW).2.2.2.1 _ _ hc_6 eo_8
      refine lv_astore_n (lv' := [(2, .ref o7), (0, .ref S0), (1, .int p1)]) hx hb dX5_copyOf_8 rfl hl (by decide) rfl (fun ls hl => ?_)
      refine lv_aload_n hx hb dX5_copyOf_9 rfl (lv_at hl 0 rfl) ?_
      refine lv_ifnonnull (tgt := 17) hx hb dX5_copyOf_10 (by decide) ?_
      refine lv_aload_n hx hb dX5_copyOf_17 rfl (lv_at hl 0 rfl) ?_
      refine zw_get (C := RX1) (T := TX1) (N := 8) hx hb hts hin1 hown hE.1 hW (xC_C hc_9) rfl 0 (by decide) (hts (.fieldLink RX5 138 "UnionList$Copy" "number" "I") (by decide +kernel)) (fun _ h9 => h9) rfl dX5_copyOf_18 ?_
      refine W.widen (k := 1) (n := 8 * (1)) (by omega) (by omega) ?_
      exact vx_ret (z_iret hx hb hr hlocks hW h dX5_copyOf_21)

def wX5_due (S0 : Nat) (k0 : kS) (p1 : Int32) (Q : Int32 → kS → Prop) (QX : String → kS → Prop) : Prop := (wX5_requestNumbered S0 k0 p1 (fun r1 k2 => ((r1 = none → False) ∧ (∀ o4 : Nat, r1 = some o4 → (((k2.1 23 o4) = 2 → Q (k2.1 24 o4) k2) ∧ (¬ (k2.1 23 o4) = 2 → (0 + 1 + 1 ≤ 2 ∧ QX "java/lang/IllegalStateException" k2)))))) QX)
theorem hin_X5_due_3 : ∀ w ∈ u_ws RX3 TX3 7, w ∈ wsX5_due := by decide +kernel
theorem hxt_X5_due_65 : ∀ w ∈ (vx_atS RX5 65 "java/lang/IllegalStateException" ["java/lang/RuntimeException", "java/lang/Exception"]).filter goodWord, w ∈ wsX5_due := by decide +kernel
set_option maxHeartbeats 8000000 in
set_option maxRecDepth 100000 in
theorem cX5_due_ok (l : Launch) (hlt : l.stackTraces = false) (D : zD) (S0 : Nat) (g : zF) (k0 : kS) (p1 : Int32)  (Q : Int32 → kS → Prop) (QX : String → kS → Prop) (h : wX5_due S0 k0 p1 Q QX) : vx_Met l yX5_due wsX5_due { frames := 7, cells := 2, slots := 8 * (2), locals := 112 } (zPc D S0 (xR D S0 g k0 k0) [.ref S0, .int p1]) (va_Qi Q (zB D S0 (fun u => xR D S0 g k0 u)) (zA S0)) (zX D S0 (fun u => xR D S0 g k0 u) QX) (2) (8 * (2)) (zA S0) := by
  refine zMetX (cc := cX5_due) (maxL := 3) (ret := (some .int)) (by decide) rfl (Nat.le_of_ble_eq_true rfl) (fun p e s m args below meth c ls hx hb hr hml hown hts hlocks hnm hnt hs hE hW hl => ?_)
  have hsz := xW_sz hW
  have hs0 : S0 ≤ s.heap.size := hs
  have hin3 := hin_X5_due_3
  replace hl : lv_has ls 3 [(0, .ref S0), (1, .int p1)] := hl
  unfold wX5_due at h
  refine lv_aload_n hx hb dX5_due_0 rfl (lv_at hl 0 rfl) ?_
  refine lv_iload_n hx hb dX5_due_1 rfl (lv_at hl 1 rfl) ?_
  have hle := xW_kle hW
  refine zxc_q (vx_runV (As := [.int p1]) (rest := []) ⟨hx, hb, hml, hown, hts⟩ (cX5_requestNumbered_ok l hlt D S0 g k0 p1 _ _ h) (cwV 1 hts gX5_due_X5_requestNumbered rfl rfl rfl (by decide +kernel) ⟨Nat.le_of_ble_eq_true rfl, Nat.le_of_ble_eq_true rfl⟩) (zpreV (q := (RX5, TX5, 7)) hE hs (xW_start hW) xC_U rfl) rfl rfl hl.1 rfl (lv_room (Nat.le_of_ble_eq_true rfl)) dX5_due_2 ⟨by show _ ≤ 2; omega, by show _ ≤ 8 * (2); omega⟩) hW (fun E ce q9 k2 H locs h hW hcell hv9 hcl9 => z_out hnt hlocks hcell hv9 hcl9 (hW.mono (xR_tr hle)) h (by omega) (by omega)) (fun r1 k2 H locs h hW => ?_)
  replace hW := hW.mono (xR_tr hle)
  refine W.widen (k := 0 + 1) (n := 8 * (0 + 1)) (by omega) (by omega) ?_
  obtain ⟨h, hk_3⟩ := h
  rcases eo_5 : r1 with _ | o4
  · replace h := h.1 eo_5
    refine lv_astore_nN (lv' := [(2, .null), (0, .ref S0), (1, .int p1)]) hx hb dX5_due_5 rfl hl (by decide) rfl (fun ls hl => ?_)
    refine lv_aload_nN hx hb dX5_due_6 rfl (lv_at hl 0 rfl) ?_
    exact h.elim
  · replace h := h.2 o4 eo_5
    have hc_6 : k2.2.2 o4 = 3 := hk_3 o4 eo_5
    refine lv_astore_n (lv' := [(2, .ref o4), (0, .ref S0), (1, .int p1)]) hx hb dX5_due_5 rfl hl (by decide) rfl (fun ls hl => ?_)
    refine lv_aload_n hx hb dX5_due_6 rfl (lv_at hl 0 rfl) ?_
    refine zw_get (C := RX3) (T := TX3) (N := 7) hx hb hts hin3 hown hE.1 hW (xC_R hc_6) rfl 3 (by decide) (hts (.fieldLink RX5 131 "UnionList$Request" "state" "I") (by decide +kernel)) (fun _ h9 => h9) rfl dX5_due_7 ?_
    refine lv_iconst (v := 2) hx hb dX5_due_10 (by decide) ?_
    refine lv_icmp_eq (tgt := 24) hx hb dX5_due_11 (by decide) (fun c_7 => ?_) (fun c_7 => ?_)
    · replace h := h.1 c_7
      refine lv_aload_n hx hb dX5_due_24 rfl (lv_at hl 0 rfl) ?_
      refine zw_get (C := RX3) (T := TX3) (N := 7) hx hb hts hin3 hown hE.1 hW (xC_R hc_6) rfl 4 (by decide) (hts (.fieldLink RX5 143 "UnionList$Request" "dueDay" "I") (by decide +kernel)) (fun _ h9 => h9) rfl dX5_due_25 ?_
      refine W.widen (k := 2) (n := 8 * (2)) (by omega) (by omega) ?_
      exact vx_ret (z_iret hx hb hr hlocks hW h dX5_due_28)
    · replace h := h.2 c_7
      exact z_throw (text := "it is no loan") hx hb hlt hown (by decide +kernel) (hts (.classLink RX5 61 "java/lang/IllegalStateException") (by decide +kernel)) (hts (.initialized "java/lang/IllegalStateException") (by decide +kernel)) (by decide +kernel) (vx_hatx hts hxt_X5_due_65 (by decide +kernel) (by decide +kernel) hE) (by decide +kernel) hE hW (fun n n' f q w => xR_mono n n' f q w) (hl.1.trans hml.symm) dX5_due_14 dX5_due_17 dX5_due_18 dX5_due_20 dX5_due_23 hnt (Nat.le_of_ble_eq_true rfl) (Nat.le_of_ble_eq_true rfl) (by have := h.1; show _ ≤ 2; omega) (by have := h.1; show _ ≤ 8 * (2); omega) hlocks h.2 (by have := h.1; omega) (by have := h.1; omega)

def wX5_renew (S0 : Nat) (k0 : kS) (p1 : Int32) (Q : Int32 → kS → Prop) (QX : String → kS → Prop) : Prop := (wX5_requestNumbered S0 k0 p1 (fun r1 k2 => ((r1 = none → False) ∧ (∀ o4 : Nat, r1 = some o4 → (((k2.2.1 22 o4) = none → (((k2.1 23 o4) = 2 → (0 + 1 + 1 ≤ 2 ∧ QX "java/lang/IllegalStateException" k2)) ∧ (¬ (k2.1 23 o4) = 2 → (0 + 1 + 1 ≤ 2 ∧ QX "java/lang/IllegalStateException" k2)))) ∧ (∀ o7 : Nat, (k2.2.1 22 o4) = some o7 → (((k2.1 23 o4) = 2 → (wX5_way S0 k2 (k2.1 20 o4) (k2.1 11 o7) (fun r12 k13 => (wX5_send S0 k13 5 r12 o7 (some o4) (fun r14 k15 => Q r14 k15))))) ∧ (¬ (k2.1 23 o4) = 2 → (0 + 1 + 1 ≤ 2 ∧ QX "java/lang/IllegalStateException" k2)))))))) QX)
theorem hin_X5_renew_1 : ∀ w ∈ u_ws RX1 TX1 8, w ∈ wsX5_renew := by decide +kernel
theorem hin_X5_renew_3 : ∀ w ∈ u_ws RX3 TX3 7, w ∈ wsX5_renew := by decide +kernel
theorem hxt_X5_renew_65 : ∀ w ∈ (vx_atS RX5 65 "java/lang/IllegalStateException" ["java/lang/RuntimeException", "java/lang/Exception"]).filter goodWord, w ∈ wsX5_renew := by decide +kernel
set_option maxHeartbeats 8000000 in
set_option maxRecDepth 100000 in
theorem cX5_renew_ok (l : Launch) (hlt : l.stackTraces = false) (D : zD) (S0 : Nat) (g : zF) (k0 : kS) (p1 : Int32)  (Q : Int32 → kS → Prop) (QX : String → kS → Prop) (h : wX5_renew S0 k0 p1 Q QX) : vx_Met l yX5_renew wsX5_renew { frames := 7, cells := 2, slots := 8 * (2), locals := 112 } (zPc D S0 (xR D S0 g k0 k0) [.ref S0, .int p1]) (va_Qi Q (zB D S0 (fun u => xR D S0 g k0 u)) (zA S0)) (zX D S0 (fun u => xR D S0 g k0 u) QX) (2) (8 * (2)) (zA S0) := by
  refine zMetX (cc := cX5_renew) (maxL := 4) (ret := (some .int)) (by decide) rfl (Nat.le_of_ble_eq_true rfl) (fun p e s m args below meth c ls hx hb hr hml hown hts hlocks hnm hnt hs hE hW hl => ?_)
  have hsz := xW_sz hW
  have hs0 : S0 ≤ s.heap.size := hs
  have hin1 := hin_X5_renew_1
  have hin3 := hin_X5_renew_3
  replace hl : lv_has ls 4 [(0, .ref S0), (1, .int p1)] := hl
  unfold wX5_renew at h
  refine lv_aload_n hx hb dX5_renew_0 rfl (lv_at hl 0 rfl) ?_
  refine lv_iload_n hx hb dX5_renew_1 rfl (lv_at hl 1 rfl) ?_
  have hle := xW_kle hW
  refine zxc_q (vx_runV (As := [.int p1]) (rest := []) ⟨hx, hb, hml, hown, hts⟩ (cX5_requestNumbered_ok l hlt D S0 g k0 p1 _ _ h) (cwV 1 hts gX5_renew_X5_requestNumbered rfl rfl rfl (by decide +kernel) ⟨Nat.le_of_ble_eq_true rfl, Nat.le_of_ble_eq_true rfl⟩) (zpreV (q := (RX5, TX5, 7)) hE hs (xW_start hW) xC_U rfl) rfl rfl hl.1 rfl (lv_room (Nat.le_of_ble_eq_true rfl)) dX5_renew_2 ⟨by show _ ≤ 2; omega, by show _ ≤ 8 * (2); omega⟩) hW (fun E ce q9 k2 H locs h hW hcell hv9 hcl9 => z_out hnt hlocks hcell hv9 hcl9 (hW.mono (xR_tr hle)) h (by omega) (by omega)) (fun r1 k2 H locs h hW => ?_)
  replace hW := hW.mono (xR_tr hle)
  refine W.widen (k := 0 + 1) (n := 8 * (0 + 1)) (by omega) (by omega) ?_
  obtain ⟨h, hk_3⟩ := h
  rcases eo_5 : r1 with _ | o4
  · replace h := h.1 eo_5
    refine lv_astore_nN (lv' := [(2, .null), (0, .ref S0), (1, .int p1)]) hx hb dX5_renew_5 rfl hl (by decide) rfl (fun ls hl => ?_)
    refine lv_aload_nN hx hb dX5_renew_6 rfl (lv_at hl 0 rfl) ?_
    exact h.elim
  · replace h := h.2 o4 eo_5
    have hc_6 : k2.2.2 o4 = 3 := hk_3 o4 eo_5
    refine lv_astore_n (lv' := [(2, .ref o4), (0, .ref S0), (1, .int p1)]) hx hb dX5_renew_5 rfl hl (by decide) rfl (fun ls hl => ?_)
    refine lv_aload_n hx hb dX5_renew_6 rfl (lv_at hl 0 rfl) ?_
    refine zw_get (C := RX3) (T := TX3) (N := 7) hx hb hts hin3 hown hE.1 hW (xC_R hc_6) rfl 2 (by decide) (hts (.fieldLink RX5 134 "UnionList$Request" "copy" "LUnionList$Copy;") (by decide +kernel)) (fun _ h9 => h9) rfl dX5_renew_7 ?_
    rcases eo_8 : (k2.2.1 22 o4) with _ | o7
    · replace h := h.1 eo_8
      refine lv_astore_nN (lv' := [(3, .null), (2, .ref o4), (0, .ref S0), (1, .int p1)]) hx hb dX5_renew_10 rfl hl (by decide) rfl (fun ls hl => ?_)
      refine lv_aload_n hx hb dX5_renew_11 rfl (lv_at hl 1 rfl) ?_
      refine zw_get (C := RX3) (T := TX3) (N := 7) hx hb hts hin3 hown hE.1 hW (xC_R hc_6) rfl 3 (by decide) (hts (.fieldLink RX5 131 "UnionList$Request" "state" "I") (by decide +kernel)) (fun _ h9 => h9) rfl dX5_renew_12 ?_
      refine lv_iconst (v := 2) hx hb dX5_renew_15 (by decide) ?_
      refine lv_icmp_ne (tgt := 23) hx hb dX5_renew_16 (by decide) (fun c_10 => ?_) (fun c_10 => ?_)
      · replace h := h.2 c_10
        exact z_throw (text := "it is no loan") hx hb hlt hown (by decide +kernel) (hts (.classLink RX5 61 "java/lang/IllegalStateException") (by decide +kernel)) (hts (.initialized "java/lang/IllegalStateException") (by decide +kernel)) (by decide +kernel) (vx_hatx hts hxt_X5_renew_65 (by decide +kernel) (by decide +kernel) hE) (by decide +kernel) hE hW (fun n n' f q w => xR_mono n n' f q w) (hl.1.trans hml.symm) dX5_renew_23 dX5_renew_26 dX5_renew_27 dX5_renew_29 dX5_renew_32 hnt (Nat.le_of_ble_eq_true rfl) (Nat.le_of_ble_eq_true rfl) (by have := h.1; show _ ≤ 2; omega) (by have := h.1; show _ ≤ 8 * (2); omega) hlocks h.2 (by have := h.1; omega) (by have := h.1; omega)
      · replace h := h.1 c_10
        refine lv_aload_nN hx hb dX5_renew_19 rfl (lv_at hl 0 rfl) ?_
        refine lv_ifnonnullN hx hb dX5_renew_20 ?_
        exact z_throw (text := "it is no loan") hx hb hlt hown (by decide +kernel) (hts (.classLink RX5 61 "java/lang/IllegalStateException") (by decide +kernel)) (hts (.initialized "java/lang/IllegalStateException") (by decide +kernel)) (by decide +kernel) (vx_hatx hts hxt_X5_renew_65 (by decide +kernel) (by decide +kernel) hE) (by decide +kernel) hE hW (fun n n' f q w => xR_mono n n' f q w) (hl.1.trans hml.symm) dX5_renew_23 dX5_renew_26 dX5_renew_27 dX5_renew_29 dX5_renew_32 hnt (Nat.le_of_ble_eq_true rfl) (Nat.le_of_ble_eq_true rfl) (by have := h.1; show _ ≤ 2; omega) (by have := h.1; show _ ≤ 8 * (2); omega) hlocks h.2 (by have := h.1; omega) (by have := h.1; omega)
    · replace h := h.2 o7 eo_8
      have hc_9 : k2.2.2 o7 = 1 := (xW_T hW).2.2.2.1 _ _ hc_6 eo_8
      refine lv_astore_n (lv' := [(3, .ref o7), (2, .ref o4), (0, .ref S0), (1, .int p1)]) hx hb dX5_renew_10 rfl hl (by decide) rfl (fun ls hl => ?_)
      refine lv_aload_n hx hb dX5_renew_11 rfl (lv_at hl 1 rfl) ?_
      refine zw_get (C := RX3) (T := TX3) (N := 7) hx hb hts hin3 hown hE.1 hW (xC_R hc_6) rfl 3 (by decide) (hts (.fieldLink RX5 131 "UnionList$Request" "state" "I") (by decide +kernel)) (fun _ h9 => h9) rfl dX5_renew_12 ?_
      refine lv_iconst (v := 2) hx hb dX5_renew_15 (by decide) ?_
      refine lv_icmp_ne (tgt := 23) hx hb dX5_renew_16 (by decide) (fun c_11 => ?_) (fun c_11 => ?_)
      · replace h := h.2 c_11
        exact z_throw (text := "it is no loan") hx hb hlt hown (by decide +kernel) (hts (.classLink RX5 61 "java/lang/IllegalStateException") (by decide +kernel)) (hts (.initialized "java/lang/IllegalStateException") (by decide +kernel)) (by decide +kernel) (vx_hatx hts hxt_X5_renew_65 (by decide +kernel) (by decide +kernel) hE) (by decide +kernel) hE hW (fun n n' f q w => xR_mono n n' f q w) (hl.1.trans hml.symm) dX5_renew_23 dX5_renew_26 dX5_renew_27 dX5_renew_29 dX5_renew_32 hnt (Nat.le_of_ble_eq_true rfl) (Nat.le_of_ble_eq_true rfl) (by have := h.1; show _ ≤ 2; omega) (by have := h.1; show _ ≤ 8 * (2); omega) hlocks h.2 (by have := h.1; omega) (by have := h.1; omega)
      · replace h := h.1 c_11
        refine lv_aload_n hx hb dX5_renew_19 rfl (lv_at hl 0 rfl) ?_
        refine lv_ifnonnull (tgt := 33) hx hb dX5_renew_20 (by decide) ?_
        refine lv_aload_n hx hb dX5_renew_33 rfl (lv_at hl 2 rfl) ?_
        refine lv_iconst (v := 5) hx hb dX5_renew_34 (by decide) ?_
        refine lv_aload_n hx hb dX5_renew_35 rfl (lv_at hl 1 rfl) ?_
        refine zw_get (C := RX3) (T := TX3) (N := 7) hx hb hts hin3 hown hE.1 hW (xC_R hc_6) rfl 0 (by decide) (hts (.fieldLink RX5 146 "UnionList$Request" "house" "I") (by decide +kernel)) (fun _ h9 => h9) rfl dX5_renew_36 ?_
        refine lv_aload_n hx hb dX5_renew_39 rfl (lv_at hl 0 rfl) ?_
        refine zw_get (C := RX1) (T := TX1) (N := 8) hx hb hts hin1 hown hE.1 hW (xC_C hc_9) rfl 1 (by decide) (hts (.fieldLink RX5 149 "UnionList$Copy" "home" "I") (by decide +kernel)) (fun _ h9 => h9) rfl dX5_renew_40 ?_
        have hle := xW_kle hW
        refine zc_i (va_runS (As := [.int (k2.1 20 o4), .int (k2.1 11 o7)]) (rest := [.int 5, .ref S0]) ⟨hx, hb, hml, hown, hts⟩ (cX5_way_ok l hlt D S0 g k2 (k2.1 20 o4) (k2.1 11 o7) _ h) (va_cwS 2 hts gX5_renew_X5_way rfl rfl rfl (by decide +kernel) ⟨Nat.le_of_ble_eq_true rfl, Nat.le_of_ble_eq_true rfl⟩) (zpreS hE hs (xW_start hW)) rfl rfl hl.1 rfl (lv_room (Nat.le_of_ble_eq_true rfl)) dX5_renew_43 ⟨by show _ ≤ 2; omega, by show _ ≤ 8 * (2); omega⟩) hW (fun r12 k13 H locs h hW => ?_)
        replace hc_6 := kle_3 (xW_kle hW) hc_6
        replace hc_9 := kle_1 (xW_kle hW) hc_9
        replace hW := hW.mono (xR_tr hle)
        refine W.widen (k := 0 + 1) (n := 8 * (0 + 1)) (by omega) (by omega) ?_
        refine lv_aload_n hx hb dX5_renew_46 rfl (lv_at hl 0 rfl) ?_
        refine lv_aload_n hx hb dX5_renew_47 rfl (lv_at hl 1 rfl) ?_
        have hle := xW_kle hW
        refine zc_i (va_runV (As := [.int 5, .int r12, .ref o7, .ref o4]) (rest := []) ⟨hx, hb, hml, hown, hts⟩ (cX5_send_ok l hlt D S0 g k13 5 r12 o7 (some o4) hc_9 (fun _ h9 => by cases h9; exact hc_6) _ h) (cwV 4 hts gX5_renew_X5_send rfl rfl rfl (by decide +kernel) ⟨Nat.le_of_ble_eq_true rfl, Nat.le_of_ble_eq_true rfl⟩) (zpreV (q := (RX5, TX5, 7)) hE hs (xW_start hW) xC_U rfl) rfl rfl hl.1 rfl (lv_room (Nat.le_of_ble_eq_true rfl)) dX5_renew_48 ⟨by show _ ≤ 2; omega, by show _ ≤ 8 * (2); omega⟩) hW (fun r14 k15 H locs h hW => ?_)
        replace hc_6 := kle_3 (xW_kle hW) hc_6
        replace hc_9 := kle_1 (xW_kle hW) hc_9
        replace hW := hW.mono (xR_tr hle)
        refine W.widen (k := 0 + 1 + 1) (n := 8 * (0 + 1 + 1)) (by omega) (by omega) ?_
        refine W.widen (k := 2) (n := 8 * (2)) (by omega) (by omega) ?_
        exact vx_ret (z_iret hx hb hr hlocks hW h dX5_renew_51)

def wX5_recall (S0 : Nat) (k0 : kS) (p1 : Int32) (Q : Int32 → kS → Prop) (QX : String → kS → Prop) : Prop := (wX5_requestNumbered S0 k0 p1 (fun r1 k2 => ((r1 = none → False) ∧ (∀ o4 : Nat, r1 = some o4 → (((k2.2.1 22 o4) = none → (((k2.1 23 o4) = 2 → (0 + 1 + 1 ≤ 2 ∧ QX "java/lang/IllegalStateException" k2)) ∧ (¬ (k2.1 23 o4) = 2 → (0 + 1 + 1 ≤ 2 ∧ QX "java/lang/IllegalStateException" k2)))) ∧ (∀ o7 : Nat, (k2.2.1 22 o4) = some o7 → (((k2.1 23 o4) = 2 → (((k2.1 25 o4) = 0 → (∀ k13 : kS, k13 = kset k2 25 o4 1 → (wX5_way S0 k13 (k13.1 20 o4) (k13.1 11 o7) (fun r14 k15 => (wX5_send S0 k15 6 r14 o7 (some o4) (fun r16 k17 => Q r16 k17)))))) ∧ (¬ (k2.1 25 o4) = 0 → (0 + 1 + 1 ≤ 2 ∧ QX "java/lang/IllegalStateException" k2)))) ∧ (¬ (k2.1 23 o4) = 2 → (0 + 1 + 1 ≤ 2 ∧ QX "java/lang/IllegalStateException" k2)))))))) QX)
theorem hin_X5_recall_1 : ∀ w ∈ u_ws RX1 TX1 8, w ∈ wsX5_recall := by decide +kernel
theorem hin_X5_recall_3 : ∀ w ∈ u_ws RX3 TX3 7, w ∈ wsX5_recall := by decide +kernel
theorem hxt_X5_recall_65 : ∀ w ∈ (vx_atS RX5 65 "java/lang/IllegalStateException" ["java/lang/RuntimeException", "java/lang/Exception"]).filter goodWord, w ∈ wsX5_recall := by decide +kernel
set_option maxHeartbeats 8000000 in
set_option maxRecDepth 100000 in
theorem cX5_recall_ok (l : Launch) (hlt : l.stackTraces = false) (D : zD) (S0 : Nat) (g : zF) (k0 : kS) (p1 : Int32)  (Q : Int32 → kS → Prop) (QX : String → kS → Prop) (h : wX5_recall S0 k0 p1 Q QX) : vx_Met l yX5_recall wsX5_recall { frames := 7, cells := 2, slots := 8 * (2), locals := 112 } (zPc D S0 (xR D S0 g k0 k0) [.ref S0, .int p1]) (va_Qi Q (zB D S0 (fun u => xR D S0 g k0 u)) (zA S0)) (zX D S0 (fun u => xR D S0 g k0 u) QX) (2) (8 * (2)) (zA S0) := by
  refine zMetX (cc := cX5_recall) (maxL := 4) (ret := (some .int)) (by decide) rfl (Nat.le_of_ble_eq_true rfl) (fun p e s m args below meth c ls hx hb hr hml hown hts hlocks hnm hnt hs hE hW hl => ?_)
  have hsz := xW_sz hW
  have hs0 : S0 ≤ s.heap.size := hs
  have hin1 := hin_X5_recall_1
  have hin3 := hin_X5_recall_3
  replace hl : lv_has ls 4 [(0, .ref S0), (1, .int p1)] := hl
  unfold wX5_recall at h
  refine lv_aload_n hx hb dX5_recall_0 rfl (lv_at hl 0 rfl) ?_
  refine lv_iload_n hx hb dX5_recall_1 rfl (lv_at hl 1 rfl) ?_
  have hle := xW_kle hW
  refine zxc_q (vx_runV (As := [.int p1]) (rest := []) ⟨hx, hb, hml, hown, hts⟩ (cX5_requestNumbered_ok l hlt D S0 g k0 p1 _ _ h) (cwV 1 hts gX5_recall_X5_requestNumbered rfl rfl rfl (by decide +kernel) ⟨Nat.le_of_ble_eq_true rfl, Nat.le_of_ble_eq_true rfl⟩) (zpreV (q := (RX5, TX5, 7)) hE hs (xW_start hW) xC_U rfl) rfl rfl hl.1 rfl (lv_room (Nat.le_of_ble_eq_true rfl)) dX5_recall_2 ⟨by show _ ≤ 2; omega, by show _ ≤ 8 * (2); omega⟩) hW (fun E ce q9 k2 H locs h hW hcell hv9 hcl9 => z_out hnt hlocks hcell hv9 hcl9 (hW.mono (xR_tr hle)) h (by omega) (by omega)) (fun r1 k2 H locs h hW => ?_)
  replace hW := hW.mono (xR_tr hle)
  refine W.widen (k := 0 + 1) (n := 8 * (0 + 1)) (by omega) (by omega) ?_
  obtain ⟨h, hk_3⟩ := h
  rcases eo_5 : r1 with _ | o4
  · replace h := h.1 eo_5
    refine lv_astore_nN (lv' := [(2, .null), (0, .ref S0), (1, .int p1)]) hx hb dX5_recall_5 rfl hl (by decide) rfl (fun ls hl => ?_)
    refine lv_aload_nN hx hb dX5_recall_6 rfl (lv_at hl 0 rfl) ?_
    exact h.elim
  · replace h := h.2 o4 eo_5
    have hc_6 : k2.2.2 o4 = 3 := hk_3 o4 eo_5
    refine lv_astore_n (lv' := [(2, .ref o4), (0, .ref S0), (1, .int p1)]) hx hb dX5_recall_5 rfl hl (by decide) rfl (fun ls hl => ?_)
    refine lv_aload_n hx hb dX5_recall_6 rfl (lv_at hl 0 rfl) ?_
    refine zw_get (C := RX3) (T := TX3) (N := 7) hx hb hts hin3 hown hE.1 hW (xC_R hc_6) rfl 2 (by decide) (hts (.fieldLink RX5 134 "UnionList$Request" "copy" "LUnionList$Copy;") (by decide +kernel)) (fun _ h9 => h9) rfl dX5_recall_7 ?_
    rcases eo_8 : (k2.2.1 22 o4) with _ | o7
    · replace h := h.1 eo_8
      refine lv_astore_nN (lv' := [(3, .null), (2, .ref o4), (0, .ref S0), (1, .int p1)]) hx hb dX5_recall_10 rfl hl (by decide) rfl (fun ls hl => ?_)
      refine lv_aload_n hx hb dX5_recall_11 rfl (lv_at hl 1 rfl) ?_
      refine zw_get (C := RX3) (T := TX3) (N := 7) hx hb hts hin3 hown hE.1 hW (xC_R hc_6) rfl 3 (by decide) (hts (.fieldLink RX5 131 "UnionList$Request" "state" "I") (by decide +kernel)) (fun _ h9 => h9) rfl dX5_recall_12 ?_
      refine lv_iconst (v := 2) hx hb dX5_recall_15 (by decide) ?_
      refine lv_icmp_ne (tgt := 30) hx hb dX5_recall_16 (by decide) (fun c_10 => ?_) (fun c_10 => ?_)
      · replace h := h.2 c_10
        exact z_throw (text := "it is no loan, or a recall of it was sent") hx hb hlt hown (by decide +kernel) (hts (.classLink RX5 61 "java/lang/IllegalStateException") (by decide +kernel)) (hts (.initialized "java/lang/IllegalStateException") (by decide +kernel)) (by decide +kernel) (vx_hatx hts hxt_X5_recall_65 (by decide +kernel) (by decide +kernel) hE) (by decide +kernel) hE hW (fun n n' f q w => xR_mono n n' f q w) (hl.1.trans hml.symm) dX5_recall_30 dX5_recall_33 dX5_recall_34 dX5_recall_36 dX5_recall_39 hnt (Nat.le_of_ble_eq_true rfl) (Nat.le_of_ble_eq_true rfl) (by have := h.1; show _ ≤ 2; omega) (by have := h.1; show _ ≤ 8 * (2); omega) hlocks h.2 (by have := h.1; omega) (by have := h.1; omega)
      · replace h := h.1 c_10
        refine lv_aload_nN hx hb dX5_recall_19 rfl (lv_at hl 0 rfl) ?_
        refine lv_ifnullN (tgt := 30) hx hb dX5_recall_20 (by decide) ?_
        exact z_throw (text := "it is no loan, or a recall of it was sent") hx hb hlt hown (by decide +kernel) (hts (.classLink RX5 61 "java/lang/IllegalStateException") (by decide +kernel)) (hts (.initialized "java/lang/IllegalStateException") (by decide +kernel)) (by decide +kernel) (vx_hatx hts hxt_X5_recall_65 (by decide +kernel) (by decide +kernel) hE) (by decide +kernel) hE hW (fun n n' f q w => xR_mono n n' f q w) (hl.1.trans hml.symm) dX5_recall_30 dX5_recall_33 dX5_recall_34 dX5_recall_36 dX5_recall_39 hnt (Nat.le_of_ble_eq_true rfl) (Nat.le_of_ble_eq_true rfl) (by have := h.1; show _ ≤ 2; omega) (by have := h.1; show _ ≤ 8 * (2); omega) hlocks h.2 (by have := h.1; omega) (by have := h.1; omega)
    · replace h := h.2 o7 eo_8
      have hc_9 : k2.2.2 o7 = 1 := (xW_T hW).2.2.2.1 _ _ hc_6 eo_8
      refine lv_astore_n (lv' := [(3, .ref o7), (2, .ref o4), (0, .ref S0), (1, .int p1)]) hx hb dX5_recall_10 rfl hl (by decide) rfl (fun ls hl => ?_)
      refine lv_aload_n hx hb dX5_recall_11 rfl (lv_at hl 1 rfl) ?_
      refine zw_get (C := RX3) (T := TX3) (N := 7) hx hb hts hin3 hown hE.1 hW (xC_R hc_6) rfl 3 (by decide) (hts (.fieldLink RX5 131 "UnionList$Request" "state" "I") (by decide +kernel)) (fun _ h9 => h9) rfl dX5_recall_12 ?_
      refine lv_iconst (v := 2) hx hb dX5_recall_15 (by decide) ?_
      refine lv_icmp_ne (tgt := 30) hx hb dX5_recall_16 (by decide) (fun c_11 => ?_) (fun c_11 => ?_)
      · replace h := h.2 c_11
        exact z_throw (text := "it is no loan, or a recall of it was sent") hx hb hlt hown (by decide +kernel) (hts (.classLink RX5 61 "java/lang/IllegalStateException") (by decide +kernel)) (hts (.initialized "java/lang/IllegalStateException") (by decide +kernel)) (by decide +kernel) (vx_hatx hts hxt_X5_recall_65 (by decide +kernel) (by decide +kernel) hE) (by decide +kernel) hE hW (fun n n' f q w => xR_mono n n' f q w) (hl.1.trans hml.symm) dX5_recall_30 dX5_recall_33 dX5_recall_34 dX5_recall_36 dX5_recall_39 hnt (Nat.le_of_ble_eq_true rfl) (Nat.le_of_ble_eq_true rfl) (by have := h.1; show _ ≤ 2; omega) (by have := h.1; show _ ≤ 8 * (2); omega) hlocks h.2 (by have := h.1; omega) (by have := h.1; omega)
      · replace h := h.1 c_11
        refine lv_aload_n hx hb dX5_recall_19 rfl (lv_at hl 0 rfl) ?_
        refine lv_ifnull hx hb dX5_recall_20 ?_
        refine lv_aload_n hx hb dX5_recall_23 rfl (lv_at hl 1 rfl) ?_
        refine zw_get (C := RX3) (T := TX3) (N := 7) hx hb hts hin3 hown hE.1 hW (xC_R hc_6) rfl 5 (by decide) (hts (.fieldLink RX5 160 "UnionList$Request" "recallSent" "Z") (by decide +kernel)) (fun _ h9 => h9) rfl dX5_recall_24 ?_
        refine lv_if_eq (tgt := 40) hx hb dX5_recall_27 (by decide) (fun c_12 => ?_) (fun c_12 => ?_)
        · replace h := h.1 c_12
          refine lv_aload_n hx hb dX5_recall_40 rfl (lv_at hl 1 rfl) ?_
          refine lv_iconst (v := 1) hx hb dX5_recall_41 (by decide) ?_
          refine zw_put (C := RX3) (T := TX3) (N := 7) hx hb hts hin3 tyX3 tyX3_ok nmX3 hown hE.1 hW (xC_R hc_6) rfl 5 (by decide) (hts (.fieldLink RX5 160 "UnionList$Request" "recallSent" "Z") (by decide +kernel)) (fun _ h9 => h9) rfl rfl rfl (Nat.le_of_ble_eq_true rfl) dX5_recall_42 (xP_R5 hc_6) (fun H locs hW => ?_)
          obtain ⟨k13, ek13⟩ : ∃ y, y = kset k2 25 o4 1 := ⟨_, rfl⟩
          rw [← ek13] at hW
          replace h := h k13 ek13
          replace hc_6 : k13.2.2 o4 = 3 := by rw [ek13]; exact hc_6
          replace hc_9 : k13.2.2 o7 = 1 := by rw [ek13]; exact hc_9
          refine lv_aload_n hx hb dX5_recall_45 rfl (lv_at hl 2 rfl) ?_
          refine lv_bipush (v := 6) hx hb dX5_recall_46 (by decide) ?_
          refine lv_aload_n hx hb dX5_recall_48 rfl (lv_at hl 1 rfl) ?_
          refine zw_get (C := RX3) (T := TX3) (N := 7) hx hb hts hin3 hown hE.1 hW (xC_R hc_6) rfl 0 (by decide) (hts (.fieldLink RX5 146 "UnionList$Request" "house" "I") (by decide +kernel)) (fun _ h9 => h9) rfl dX5_recall_49 ?_
          refine lv_aload_n hx hb dX5_recall_52 rfl (lv_at hl 0 rfl) ?_
          refine zw_get (C := RX1) (T := TX1) (N := 8) hx hb hts hin1 hown hE.1 hW (xC_C hc_9) rfl 1 (by decide) (hts (.fieldLink RX5 149 "UnionList$Copy" "home" "I") (by decide +kernel)) (fun _ h9 => h9) rfl dX5_recall_53 ?_
          have hle := xW_kle hW
          refine zc_i (va_runS (As := [.int (k13.1 20 o4), .int (k13.1 11 o7)]) (rest := [.int 6, .ref S0]) ⟨hx, hb, hml, hown, hts⟩ (cX5_way_ok l hlt D S0 g k13 (k13.1 20 o4) (k13.1 11 o7) _ h) (va_cwS 2 hts gX5_recall_X5_way rfl rfl rfl (by decide +kernel) ⟨Nat.le_of_ble_eq_true rfl, Nat.le_of_ble_eq_true rfl⟩) (zpreS hE hs (xW_start hW)) rfl rfl hl.1 rfl (lv_room (Nat.le_of_ble_eq_true rfl)) dX5_recall_56 ⟨by show _ ≤ 2; omega, by show _ ≤ 8 * (2); omega⟩) hW (fun r14 k15 H locs h hW => ?_)
          replace hc_6 := kle_3 (xW_kle hW) hc_6
          replace hc_9 := kle_1 (xW_kle hW) hc_9
          replace hW := hW.mono (xR_tr hle)
          refine W.widen (k := 0 + 1) (n := 8 * (0 + 1)) (by omega) (by omega) ?_
          refine lv_aload_n hx hb dX5_recall_59 rfl (lv_at hl 0 rfl) ?_
          refine lv_aload_n hx hb dX5_recall_60 rfl (lv_at hl 1 rfl) ?_
          have hle := xW_kle hW
          refine zc_i (va_runV (As := [.int 6, .int r14, .ref o7, .ref o4]) (rest := []) ⟨hx, hb, hml, hown, hts⟩ (cX5_send_ok l hlt D S0 g k15 6 r14 o7 (some o4) hc_9 (fun _ h9 => by cases h9; exact hc_6) _ h) (cwV 4 hts gX5_recall_X5_send rfl rfl rfl (by decide +kernel) ⟨Nat.le_of_ble_eq_true rfl, Nat.le_of_ble_eq_true rfl⟩) (zpreV (q := (RX5, TX5, 7)) hE hs (xW_start hW) xC_U rfl) rfl rfl hl.1 rfl (lv_room (Nat.le_of_ble_eq_true rfl)) dX5_recall_61 ⟨by show _ ≤ 2; omega, by show _ ≤ 8 * (2); omega⟩) hW (fun r16 k17 H locs h hW => ?_)
          replace hc_6 := kle_3 (xW_kle hW) hc_6
          replace hc_9 := kle_1 (xW_kle hW) hc_9
          replace hW := hW.mono (xR_tr hle)
          refine W.widen (k := 0 + 1 + 1) (n := 8 * (0 + 1 + 1)) (by omega) (by omega) ?_
          refine W.widen (k := 2) (n := 8 * (2)) (by omega) (by omega) ?_
          exact vx_ret (z_iret hx hb hr hlocks hW h dX5_recall_64)
        · replace h := h.2 c_12
          exact z_throw (text := "it is no loan, or a recall of it was sent") hx hb hlt hown (by decide +kernel) (hts (.classLink RX5 61 "java/lang/IllegalStateException") (by decide +kernel)) (hts (.initialized "java/lang/IllegalStateException") (by decide +kernel)) (by decide +kernel) (vx_hatx hts hxt_X5_recall_65 (by decide +kernel) (by decide +kernel) hE) (by decide +kernel) hE hW (fun n n' f q w => xR_mono n n' f q w) (hl.1.trans hml.symm) dX5_recall_30 dX5_recall_33 dX5_recall_34 dX5_recall_36 dX5_recall_39 hnt (Nat.le_of_ble_eq_true rfl) (Nat.le_of_ble_eq_true rfl) (by have := h.1; show _ ≤ 2; omega) (by have := h.1; show _ ≤ 8 * (2); omega) hlocks h.2 (by have := h.1; omega) (by have := h.1; omega)

def wX5_sendBack (S0 : Nat) (k0 : kS) (p1 : Int32) (Q : Int32 → kS → Prop) (QX : String → kS → Prop) : Prop := (wX5_requestNumbered S0 k0 p1 (fun r1 k2 => ((r1 = none → False) ∧ (∀ o4 : Nat, r1 = some o4 → (((k2.2.1 22 o4) = none → (((k2.1 23 o4) = 2 → (0 + 1 + 1 ≤ 2 ∧ QX "java/lang/IllegalStateException" k2)) ∧ (¬ (k2.1 23 o4) = 2 → (0 + 1 + 1 ≤ 2 ∧ QX "java/lang/IllegalStateException" k2)))) ∧ (∀ o7 : Nat, (k2.2.1 22 o4) = some o7 → (((k2.1 23 o4) = 2 → (wX0_charge S0 k2 (k2.1 20 o4) (k2.1 11 o7) ((if 0 < ((k2.1 2 0) - (k2.1 24 o4)) then ((k2.1 2 0) - (k2.1 24 o4)) else 0) * 1) (fun k13 => (∀ k14 : kS, k14 = kset k13 23 o4 3 → (∀ k15 : kS, k15 = kset k14 14 o7 1 → (wX5_way S0 k15 (k15.1 20 o4) (k15.1 11 o7) (fun r16 k17 => (wX5_send S0 k17 4 r16 o7 (some o4) (fun r18 k19 => Q (if 0 < ((k2.1 2 0) - (k2.1 24 o4)) then ((k2.1 2 0) - (k2.1 24 o4)) else 0) k19))))))))) ∧ (¬ (k2.1 23 o4) = 2 → (0 + 1 + 1 ≤ 2 ∧ QX "java/lang/IllegalStateException" k2)))))))) QX)
theorem hin_X5_sendBack_1 : ∀ w ∈ u_ws RX1 TX1 8, w ∈ wsX5_sendBack := by decide +kernel
theorem hin_X5_sendBack_3 : ∀ w ∈ u_ws RX3 TX3 7, w ∈ wsX5_sendBack := by decide +kernel
theorem hin_X5_sendBack_5 : ∀ w ∈ u_ws RX5 TX5 7, w ∈ wsX5_sendBack := by decide +kernel
theorem hxt_X5_sendBack_65 : ∀ w ∈ (vx_atS RX5 65 "java/lang/IllegalStateException" ["java/lang/RuntimeException", "java/lang/Exception"]).filter goodWord, w ∈ wsX5_sendBack := by decide +kernel
set_option maxHeartbeats 8000000 in
set_option maxRecDepth 100000 in
theorem cX5_sendBack_ok (l : Launch) (hlt : l.stackTraces = false) (D : zD) (S0 : Nat) (g : zF) (k0 : kS) (p1 : Int32)  (Q : Int32 → kS → Prop) (QX : String → kS → Prop) (h : wX5_sendBack S0 k0 p1 Q QX) : vx_Met l yX5_sendBack wsX5_sendBack { frames := 7, cells := 2, slots := 8 * (2), locals := 112 } (zPc D S0 (xR D S0 g k0 k0) [.ref S0, .int p1]) (va_Qi Q (zB D S0 (fun u => xR D S0 g k0 u)) (zA S0)) (zX D S0 (fun u => xR D S0 g k0 u) QX) (2) (8 * (2)) (zA S0) := by
  refine zMetX (cc := cX5_sendBack) (maxL := 5) (ret := (some .int)) (by decide) rfl (Nat.le_of_ble_eq_true rfl) (fun p e s m args below meth c ls hx hb hr hml hown hts hlocks hnm hnt hs hE hW hl => ?_)
  have hsz := xW_sz hW
  have hs0 : S0 ≤ s.heap.size := hs
  have hin1 := hin_X5_sendBack_1
  have hin3 := hin_X5_sendBack_3
  have hin5 := hin_X5_sendBack_5
  replace hl : lv_has ls 5 [(0, .ref S0), (1, .int p1)] := hl
  unfold wX5_sendBack at h
  refine lv_aload_n hx hb dX5_sendBack_0 rfl (lv_at hl 0 rfl) ?_
  refine lv_iload_n hx hb dX5_sendBack_1 rfl (lv_at hl 1 rfl) ?_
  have hle := xW_kle hW
  refine zxc_q (vx_runV (As := [.int p1]) (rest := []) ⟨hx, hb, hml, hown, hts⟩ (cX5_requestNumbered_ok l hlt D S0 g k0 p1 _ _ h) (cwV 1 hts gX5_sendBack_X5_requestNumbered rfl rfl rfl (by decide +kernel) ⟨Nat.le_of_ble_eq_true rfl, Nat.le_of_ble_eq_true rfl⟩) (zpreV (q := (RX5, TX5, 7)) hE hs (xW_start hW) xC_U rfl) rfl rfl hl.1 rfl (lv_room (Nat.le_of_ble_eq_true rfl)) dX5_sendBack_2 ⟨by show _ ≤ 2; omega, by show _ ≤ 8 * (2); omega⟩) hW (fun E ce q9 k2 H locs h hW hcell hv9 hcl9 => z_out hnt hlocks hcell hv9 hcl9 (hW.mono (xR_tr hle)) h (by omega) (by omega)) (fun r1 k2 H locs h hW => ?_)
  replace hW := hW.mono (xR_tr hle)
  refine W.widen (k := 0 + 1) (n := 8 * (0 + 1)) (by omega) (by omega) ?_
  obtain ⟨h, hk_3⟩ := h
  rcases eo_5 : r1 with _ | o4
  · replace h := h.1 eo_5
    refine lv_astore_nN (lv' := [(2, .null), (0, .ref S0), (1, .int p1)]) hx hb dX5_sendBack_5 rfl hl (by decide) rfl (fun ls hl => ?_)
    refine lv_aload_nN hx hb dX5_sendBack_6 rfl (lv_at hl 0 rfl) ?_
    exact h.elim
  · replace h := h.2 o4 eo_5
    have hc_6 : k2.2.2 o4 = 3 := hk_3 o4 eo_5
    refine lv_astore_n (lv' := [(2, .ref o4), (0, .ref S0), (1, .int p1)]) hx hb dX5_sendBack_5 rfl hl (by decide) rfl (fun ls hl => ?_)
    refine lv_aload_n hx hb dX5_sendBack_6 rfl (lv_at hl 0 rfl) ?_
    refine zw_get (C := RX3) (T := TX3) (N := 7) hx hb hts hin3 hown hE.1 hW (xC_R hc_6) rfl 2 (by decide) (hts (.fieldLink RX5 134 "UnionList$Request" "copy" "LUnionList$Copy;") (by decide +kernel)) (fun _ h9 => h9) rfl dX5_sendBack_7 ?_
    rcases eo_8 : (k2.2.1 22 o4) with _ | o7
    · replace h := h.1 eo_8
      refine lv_astore_nN (lv' := [(3, .null), (2, .ref o4), (0, .ref S0), (1, .int p1)]) hx hb dX5_sendBack_10 rfl hl (by decide) rfl (fun ls hl => ?_)
      refine lv_aload_n hx hb dX5_sendBack_11 rfl (lv_at hl 1 rfl) ?_
      refine zw_get (C := RX3) (T := TX3) (N := 7) hx hb hts hin3 hown hE.1 hW (xC_R hc_6) rfl 3 (by decide) (hts (.fieldLink RX5 131 "UnionList$Request" "state" "I") (by decide +kernel)) (fun _ h9 => h9) rfl dX5_sendBack_12 ?_
      refine lv_iconst (v := 2) hx hb dX5_sendBack_15 (by decide) ?_
      refine lv_icmp_ne (tgt := 23) hx hb dX5_sendBack_16 (by decide) (fun c_10 => ?_) (fun c_10 => ?_)
      · replace h := h.2 c_10
        exact z_throw (text := "it is no loan") hx hb hlt hown (by decide +kernel) (hts (.classLink RX5 61 "java/lang/IllegalStateException") (by decide +kernel)) (hts (.initialized "java/lang/IllegalStateException") (by decide +kernel)) (by decide +kernel) (vx_hatx hts hxt_X5_sendBack_65 (by decide +kernel) (by decide +kernel) hE) (by decide +kernel) hE hW (fun n n' f q w => xR_mono n n' f q w) (hl.1.trans hml.symm) dX5_sendBack_23 dX5_sendBack_26 dX5_sendBack_27 dX5_sendBack_29 dX5_sendBack_32 hnt (Nat.le_of_ble_eq_true rfl) (Nat.le_of_ble_eq_true rfl) (by have := h.1; show _ ≤ 2; omega) (by have := h.1; show _ ≤ 8 * (2); omega) hlocks h.2 (by have := h.1; omega) (by have := h.1; omega)
      · replace h := h.1 c_10
        refine lv_aload_nN hx hb dX5_sendBack_19 rfl (lv_at hl 0 rfl) ?_
        refine lv_ifnonnullN hx hb dX5_sendBack_20 ?_
        exact z_throw (text := "it is no loan") hx hb hlt hown (by decide +kernel) (hts (.classLink RX5 61 "java/lang/IllegalStateException") (by decide +kernel)) (hts (.initialized "java/lang/IllegalStateException") (by decide +kernel)) (by decide +kernel) (vx_hatx hts hxt_X5_sendBack_65 (by decide +kernel) (by decide +kernel) hE) (by decide +kernel) hE hW (fun n n' f q w => xR_mono n n' f q w) (hl.1.trans hml.symm) dX5_sendBack_23 dX5_sendBack_26 dX5_sendBack_27 dX5_sendBack_29 dX5_sendBack_32 hnt (Nat.le_of_ble_eq_true rfl) (Nat.le_of_ble_eq_true rfl) (by have := h.1; show _ ≤ 2; omega) (by have := h.1; show _ ≤ 8 * (2); omega) hlocks h.2 (by have := h.1; omega) (by have := h.1; omega)
    · replace h := h.2 o7 eo_8
      have hc_9 : k2.2.2 o7 = 1 := (xW_T hW).2.2.2.1 _ _ hc_6 eo_8
      refine lv_astore_n (lv' := [(3, .ref o7), (2, .ref o4), (0, .ref S0), (1, .int p1)]) hx hb dX5_sendBack_10 rfl hl (by decide) rfl (fun ls hl => ?_)
      refine lv_aload_n hx hb dX5_sendBack_11 rfl (lv_at hl 1 rfl) ?_
      refine zw_get (C := RX3) (T := TX3) (N := 7) hx hb hts hin3 hown hE.1 hW (xC_R hc_6) rfl 3 (by decide) (hts (.fieldLink RX5 131 "UnionList$Request" "state" "I") (by decide +kernel)) (fun _ h9 => h9) rfl dX5_sendBack_12 ?_
      refine lv_iconst (v := 2) hx hb dX5_sendBack_15 (by decide) ?_
      refine lv_icmp_ne (tgt := 23) hx hb dX5_sendBack_16 (by decide) (fun c_11 => ?_) (fun c_11 => ?_)
      · replace h := h.2 c_11
        exact z_throw (text := "it is no loan") hx hb hlt hown (by decide +kernel) (hts (.classLink RX5 61 "java/lang/IllegalStateException") (by decide +kernel)) (hts (.initialized "java/lang/IllegalStateException") (by decide +kernel)) (by decide +kernel) (vx_hatx hts hxt_X5_sendBack_65 (by decide +kernel) (by decide +kernel) hE) (by decide +kernel) hE hW (fun n n' f q w => xR_mono n n' f q w) (hl.1.trans hml.symm) dX5_sendBack_23 dX5_sendBack_26 dX5_sendBack_27 dX5_sendBack_29 dX5_sendBack_32 hnt (Nat.le_of_ble_eq_true rfl) (Nat.le_of_ble_eq_true rfl) (by have := h.1; show _ ≤ 2; omega) (by have := h.1; show _ ≤ 8 * (2); omega) hlocks h.2 (by have := h.1; omega) (by have := h.1; omega)
      · replace h := h.1 c_11
        refine lv_aload_n hx hb dX5_sendBack_19 rfl (lv_at hl 0 rfl) ?_
        refine lv_ifnonnull (tgt := 33) hx hb dX5_sendBack_20 (by decide) ?_
        refine lv_iconst (v := 0) hx hb dX5_sendBack_33 (by decide) ?_
        refine lv_aload_n hx hb dX5_sendBack_34 rfl (lv_at hl 2 rfl) ?_
        refine zw_get (C := RX5) (T := TX5) (N := 7) hx hb hts hin5 hown hE.1 hW xC_U rfl 6 (by decide) (hts (.fieldLink RX5 44 "UnionList" "day" "I") (by decide +kernel)) (fun _ h9 => h9) rfl dX5_sendBack_35 ?_
        refine lv_aload_n hx hb dX5_sendBack_38 rfl (lv_at hl 1 rfl) ?_
        refine zw_get (C := RX3) (T := TX3) (N := 7) hx hb hts hin3 hown hE.1 hW (xC_R hc_6) rfl 4 (by decide) (hts (.fieldLink RX5 143 "UnionList$Request" "dueDay" "I") (by decide +kernel)) (fun _ h9 => h9) rfl dX5_sendBack_39 ?_
        refine lv_isub hx hb dX5_sendBack_42 ?_
        refine va_mmax hx hb (hml.trans hl.1.symm) hown (hts (.methodLink RX5 165 Lib.Math.max.name) (by decide +kernel)) (hts (.static Lib.Math.max.name) (by decide +kernel)) (hts (.initialized "java/lang/Math") (by decide +kernel)) (hts (.code Lib.Math.max.name Lib.Math.max.code 2 (some .int)) (by decide +kernel)) (Nat.le_of_ble_eq_true rfl) (Nat.le_of_ble_eq_true rfl) (by show _ ≤ 2; omega) (by show _ ≤ 8 * (2); omega) dX5_sendBack_43 ?_
        refine lv_istore (lv' := [(4, .int (if 0 < ((k2.1 2 0) - (k2.1 24 o4)) then ((k2.1 2 0) - (k2.1 24 o4)) else 0)), (3, .ref o7), (2, .ref o4), (0, .ref S0), (1, .int p1)]) hx hb dX5_sendBack_46 hl (by decide) rfl (fun ls hl => ?_)
        refine lv_aload_n hx hb dX5_sendBack_48 rfl (lv_at hl 3 rfl) ?_
        refine zw_get (C := RX5) (T := TX5) (N := 7) hx hb hts hin5 hown hE.1 hW xC_U rfl 3 (by decide) (hts (.fieldLink RX5 33 "UnionList" "accounts" "LUnionList$Accounts;") (by decide +kernel)) (fun _ h9 => h9) rfl dX5_sendBack_49 ?_
        refine lv_aload_n hx hb dX5_sendBack_52 rfl (lv_at hl 2 rfl) ?_
        refine zw_get (C := RX3) (T := TX3) (N := 7) hx hb hts hin3 hown hE.1 hW (xC_R hc_6) rfl 0 (by decide) (hts (.fieldLink RX5 146 "UnionList$Request" "house" "I") (by decide +kernel)) (fun _ h9 => h9) rfl dX5_sendBack_53 ?_
        refine lv_aload_n hx hb dX5_sendBack_56 rfl (lv_at hl 1 rfl) ?_
        refine zw_get (C := RX1) (T := TX1) (N := 8) hx hb hts hin1 hown hE.1 hW (xC_C hc_9) rfl 1 (by decide) (hts (.fieldLink RX5 149 "UnionList$Copy" "home" "I") (by decide +kernel)) (fun _ h9 => h9) rfl dX5_sendBack_57 ?_
        refine lv_iload hx hb dX5_sendBack_60 (lv_at hl 0 rfl) ?_
        refine lv_iconst (v := 1) hx hb dX5_sendBack_62 (by decide) ?_
        refine lv_imul hx hb dX5_sendBack_63 ?_
        have hle := xW_kle hW
        refine zc_v (va_runV (As := [.int (k2.1 20 o4), .int (k2.1 11 o7), .int ((if 0 < ((k2.1 2 0) - (k2.1 24 o4)) then ((k2.1 2 0) - (k2.1 24 o4)) else 0) * 1)]) (rest := []) ⟨hx, hb, hml, hown, hts⟩ (cX0_charge_ok l hlt D S0 g k2 (k2.1 20 o4) (k2.1 11 o7) ((if 0 < ((k2.1 2 0) - (k2.1 24 o4)) then ((k2.1 2 0) - (k2.1 24 o4)) else 0) * 1) _ h) (cwV 3 hts gX5_sendBack_X0_charge rfl rfl rfl (by decide +kernel) ⟨Nat.le_of_ble_eq_true rfl, Nat.le_of_ble_eq_true rfl⟩) (zpreV (q := (RX0, TX0, 3)) hE hs (xW_start hW) xC_A rfl) rfl rfl hl.1 rfl (lv_room (Nat.le_of_ble_eq_true rfl)) dX5_sendBack_64 ⟨by show _ ≤ 2; omega, by show _ ≤ 8 * (2); omega⟩) hW (fun k13 H locs h hW => ?_)
        replace hc_6 := kle_3 (xW_kle hW) hc_6
        replace hc_9 := kle_1 (xW_kle hW) hc_9
        replace hW := hW.mono (xR_tr hle)
        refine W.widen (k := 0 + 1) (n := 8 * (0 + 1)) (by omega) (by omega) ?_
        refine lv_aload_n hx hb dX5_sendBack_67 rfl (lv_at hl 2 rfl) ?_
        refine lv_iconst (v := 3) hx hb dX5_sendBack_68 (by decide) ?_
        refine zw_put (C := RX3) (T := TX3) (N := 7) hx hb hts hin3 tyX3 tyX3_ok nmX3 hown hE.1 hW (xC_R hc_6) rfl 3 (by decide) (hts (.fieldLink RX5 131 "UnionList$Request" "state" "I") (by decide +kernel)) (fun _ h9 => h9) rfl rfl rfl (Nat.le_of_ble_eq_true rfl) dX5_sendBack_69 (xP_R3 hc_6) (fun H locs hW => ?_)
        obtain ⟨k14, ek14⟩ : ∃ y, y = kset k13 23 o4 3 := ⟨_, rfl⟩
        rw [← ek14] at hW
        replace h := h k14 ek14
        replace hc_6 : k14.2.2 o4 = 3 := by rw [ek14]; exact hc_6
        replace hc_9 : k14.2.2 o7 = 1 := by rw [ek14]; exact hc_9
        refine lv_aload_n hx hb dX5_sendBack_72 rfl (lv_at hl 1 rfl) ?_
        refine lv_iconst (v := 1) hx hb dX5_sendBack_73 (by decide) ?_
        refine zw_put (C := RX1) (T := TX1) (N := 8) hx hb hts hin1 tyX1 tyX1_ok nmX1 hown hE.1 hW (xC_C hc_9) rfl 4 (by decide) (hts (.fieldLink RX5 98 "UnionList$Copy" "onItsWay" "Z") (by decide +kernel)) (fun _ h9 => h9) rfl rfl rfl (Nat.le_of_ble_eq_true rfl) dX5_sendBack_74 (xP_C4 hc_9) (fun H locs hW => ?_)
        obtain ⟨k15, ek15⟩ : ∃ y, y = kset k14 14 o7 1 := ⟨_, rfl⟩
        rw [← ek15] at hW
        replace h := h k15 ek15
        replace hc_6 : k15.2.2 o4 = 3 := by rw [ek15]; exact hc_6
        replace hc_9 : k15.2.2 o7 = 1 := by rw [ek15]; exact hc_9
        refine lv_aload_n hx hb dX5_sendBack_77 rfl (lv_at hl 3 rfl) ?_
        refine lv_iconst (v := 4) hx hb dX5_sendBack_78 (by decide) ?_
        refine lv_aload_n hx hb dX5_sendBack_79 rfl (lv_at hl 2 rfl) ?_
        refine zw_get (C := RX3) (T := TX3) (N := 7) hx hb hts hin3 hown hE.1 hW (xC_R hc_6) rfl 0 (by decide) (hts (.fieldLink RX5 146 "UnionList$Request" "house" "I") (by decide +kernel)) (fun _ h9 => h9) rfl dX5_sendBack_80 ?_
        refine lv_aload_n hx hb dX5_sendBack_83 rfl (lv_at hl 1 rfl) ?_
        refine zw_get (C := RX1) (T := TX1) (N := 8) hx hb hts hin1 hown hE.1 hW (xC_C hc_9) rfl 1 (by decide) (hts (.fieldLink RX5 149 "UnionList$Copy" "home" "I") (by decide +kernel)) (fun _ h9 => h9) rfl dX5_sendBack_84 ?_
        have hle := xW_kle hW
        refine zc_i (va_runS (As := [.int (k15.1 20 o4), .int (k15.1 11 o7)]) (rest := [.int 4, .ref S0]) ⟨hx, hb, hml, hown, hts⟩ (cX5_way_ok l hlt D S0 g k15 (k15.1 20 o4) (k15.1 11 o7) _ h) (va_cwS 2 hts gX5_sendBack_X5_way rfl rfl rfl (by decide +kernel) ⟨Nat.le_of_ble_eq_true rfl, Nat.le_of_ble_eq_true rfl⟩) (zpreS hE hs (xW_start hW)) rfl rfl hl.1 rfl (lv_room (Nat.le_of_ble_eq_true rfl)) dX5_sendBack_87 ⟨by show _ ≤ 2; omega, by show _ ≤ 8 * (2); omega⟩) hW (fun r16 k17 H locs h hW => ?_)
        replace hc_6 := kle_3 (xW_kle hW) hc_6
        replace hc_9 := kle_1 (xW_kle hW) hc_9
        replace hW := hW.mono (xR_tr hle)
        refine W.widen (k := 0 + 1) (n := 8 * (0 + 1)) (by omega) (by omega) ?_
        refine lv_aload_n hx hb dX5_sendBack_90 rfl (lv_at hl 1 rfl) ?_
        refine lv_aload_n hx hb dX5_sendBack_91 rfl (lv_at hl 2 rfl) ?_
        have hle := xW_kle hW
        refine zc_i (va_runV (As := [.int 4, .int r16, .ref o7, .ref o4]) (rest := []) ⟨hx, hb, hml, hown, hts⟩ (cX5_send_ok l hlt D S0 g k17 4 r16 o7 (some o4) hc_9 (fun _ h9 => by cases h9; exact hc_6) _ h) (cwV 4 hts gX5_sendBack_X5_send rfl rfl rfl (by decide +kernel) ⟨Nat.le_of_ble_eq_true rfl, Nat.le_of_ble_eq_true rfl⟩) (zpreV (q := (RX5, TX5, 7)) hE hs (xW_start hW) xC_U rfl) rfl rfl hl.1 rfl (lv_room (Nat.le_of_ble_eq_true rfl)) dX5_sendBack_92 ⟨by show _ ≤ 2; omega, by show _ ≤ 8 * (2); omega⟩) hW (fun r18 k19 H locs h hW => ?_)
        replace hc_6 := kle_3 (xW_kle hW) hc_6
        replace hc_9 := kle_1 (xW_kle hW) hc_9
        replace hW := hW.mono (xR_tr hle)
        refine W.widen (k := 0 + 1 + 1) (n := 8 * (0 + 1 + 1)) (by omega) (by omega) ?_
        refine lv_pop hx hb dX5_sendBack_95 rfl ?_
        refine lv_iload hx hb dX5_sendBack_96 (lv_at hl 0 rfl) ?_
        refine W.widen (k := 2) (n := 8 * (2)) (by omega) (by omega) ?_
        exact vx_ret (z_iret hx hb hr hlocks hW h dX5_sendBack_98)

def wX5_pass_l25 (S0 : Nat) (B : Nat) (p1 : Int32) (Q : Int32 → kS → Prop) (QX : String → kS → Prop) : Nat → Int32 → Int32 → Nat → kS → Prop
  | 0, _, _, _, _ => False
  | f7 + 1, x3, x4, n6, k5 => (n6 ≤ B ∧ ((p1 ≤ x3 → Q x4 k5) ∧ (¬ p1 ≤ x3 → (∃ b9 : Nat, n6 + b9 ≤ B ∧ (wX5_arrivalsOfNextDay S0 b9 k5 (fun r11 k12 => (wX5_pass_l25 S0 B p1 Q QX f7 (x3 + 1) (x4 + r11) (n6 + b9) k12)))))))
def wX5_pass (S0 : Nat) (B : Nat) (k0 : kS) (p1 : Int32) (Q : Int32 → kS → Prop) (QX : String → kS → Prop) : Prop := ((p1 < 1 → (0 + 1 ≤ B ∧ QX "java/lang/IllegalArgumentException" k0)) ∧ (¬ p1 < 1 → ((p1 ≤ 100 → (∃ f13 : Nat, wX5_pass_l25 S0 B p1 Q QX f13 0 0 0 k0)) ∧ (¬ p1 ≤ 100 → (0 + 1 ≤ B ∧ QX "java/lang/IllegalArgumentException" k0)))))
theorem hxt_X5_pass_58 : ∀ w ∈ (vx_atS RX5 58 "java/lang/IllegalArgumentException" ["java/lang/RuntimeException", "java/lang/Exception"]).filter goodWord, w ∈ wsX5_pass := by decide +kernel
set_option maxHeartbeats 8000000 in
set_option maxRecDepth 100000 in
theorem cX5_pass_ok (l : Launch) (hlt : l.stackTraces = false) (D : zD) (S0 : Nat) (g : zF) (B : Nat) (k0 : kS) (p1 : Int32)  (Q : Int32 → kS → Prop) (QX : String → kS → Prop) (h : wX5_pass S0 B k0 p1 Q QX) : vx_Met l yX5_pass wsX5_pass { frames := 7, cells := B, slots := 8 * (B), locals := 162 } (zPc D S0 (xR D S0 g k0 k0) [.ref S0, .int p1]) (va_Qi Q (zB D S0 (fun u => xR D S0 g k0 u)) (zA S0)) (zX D S0 (fun u => xR D S0 g k0 u) QX) (B) (8 * (B)) (zA S0) := by
  refine zMetX (cc := cX5_pass) (maxL := 4) (ret := (some .int)) (by decide) rfl (Nat.le_of_ble_eq_true rfl) (fun p e s m args below meth c ls hx hb hr hml hown hts hlocks hnm hnt hs hE hW hl => ?_)
  have hsz := xW_sz hW
  have hs0 : S0 ≤ s.heap.size := hs
  replace hl : lv_has ls 4 [(0, .ref S0), (1, .int p1)] := hl
  unfold wX5_pass at h
  refine lv_iload_n hx hb dX5_pass_0 rfl (lv_at hl 1 rfl) ?_
  refine lv_iconst (v := 1) hx hb dX5_pass_1 (by decide) ?_
  refine lv_icmp_lt (tgt := 11) hx hb dX5_pass_2 (by decide) (fun c_1 => ?_) (fun c_1 => ?_)
  · replace h := h.1 c_1
    exact z_throw (text := "days is out of range") hx hb hlt hown (by decide +kernel) (hts (.classLink RX5 54 "java/lang/IllegalArgumentException") (by decide +kernel)) (hts (.initialized "java/lang/IllegalArgumentException") (by decide +kernel)) (by decide +kernel) (vx_hatx hts hxt_X5_pass_58 (by decide +kernel) (by decide +kernel) hE) (by decide +kernel) hE hW (fun n n' f q w => xR_mono n n' f q w) (hl.1.trans hml.symm) dX5_pass_11 dX5_pass_14 dX5_pass_15 dX5_pass_17 dX5_pass_20 hnt (Nat.le_of_ble_eq_true rfl) (Nat.le_of_ble_eq_true rfl) (by have := h.1; show _ ≤ B; omega) (by have := h.1; show _ ≤ 8 * (B); omega) hlocks h.2 (by have := h.1; omega) (by have := h.1; omega)
  · replace h := h.2 c_1
    refine lv_iload_n hx hb dX5_pass_5 rfl (lv_at hl 1 rfl) ?_
    refine lv_bipush (v := 100) hx hb dX5_pass_6 (by decide) ?_
    refine lv_icmp_le (tgt := 21) hx hb dX5_pass_8 (by decide) (fun c_2 => ?_) (fun c_2 => ?_)
    · replace h := h.1 c_2
      refine lv_iconst (v := 0) hx hb dX5_pass_21 (by decide) ?_
      refine lv_istore_n (lv' := [(2, .int 0), (0, .ref S0), (1, .int p1)]) hx hb dX5_pass_22 rfl hl (by decide) rfl (fun ls hl => ?_)
      refine lv_iconst (v := 0) hx hb dX5_pass_23 (by decide) ?_
      refine lv_istore_n (lv' := [(3, .int 0), (2, .int 0), (0, .ref S0), (1, .int p1)]) hx hb dX5_pass_24 rfl hl (by decide) rfl (fun ls hl => ?_)
      have lp25 : ∀ (f7 : Nat) (x3 : Int32) (x4 : Int32) (n6 : Nat) (k5 : kS) (H : Heap) (locs : List Loc) (ls : Array Slot), wX5_pass_l25 S0 B p1 Q QX f7 x3 x4 n6 k5 → zW D S0 (xR D S0 g k0 k5) s.heap H locs → lv_has ls 4 [(3, .int x3), (2, .int x4), (0, .ref S0), (1, .int p1)] → W p l e { frames := 7, cells := B, slots := 8 * (B), locals := 162 } s m args below meth c H locs (n6) (8 * (n6)) (vx_MQ below (va_Qi Q (zB D S0 (fun u => xR D S0 g k0 u)) (zA S0)) (zX D S0 (fun u => xR D S0 g k0 u) QX) args s (B) (8 * (B)) (zA S0)) (F0 m 25 ls []) := by
        intro f7
        induction f7 with
        | zero => intro x3 x4 n6 k5 H locs ls h; exact h.elim
        | succ f7 ih25 =>
          intro x3 x4 n6 k5 H locs ls h  hW hl
          unfold wX5_pass_l25 at h
          obtain ⟨hb_n6, h⟩ := h
          refine lv_iload_n hx hb dX5_pass_25 rfl (lv_at hl 0 rfl) ?_
          refine lv_iload_n hx hb dX5_pass_26 rfl (lv_at hl 3 rfl) ?_
          refine lv_icmp_ge (tgt := 43) hx hb dX5_pass_27 (by decide) (fun c_8 => ?_) (fun c_8 => ?_)
          · replace h := h.1 c_8
            refine lv_iload_n hx hb dX5_pass_43 rfl (lv_at hl 1 rfl) ?_
            refine W.widen (k := B) (n := 8 * (B)) (by omega) (by omega) ?_
            exact vx_ret (z_iret hx hb hr hlocks hW h dX5_pass_44)
          · replace h := h.2 c_8
            refine lv_iload_n hx hb dX5_pass_30 rfl (lv_at hl 1 rfl) ?_
            refine lv_aload_n hx hb dX5_pass_31 rfl (lv_at hl 2 rfl) ?_
            obtain ⟨b9, hb_10, h⟩ := h
            have hle := xW_kle hW
            refine zc_i (va_runV (As := []) (rest := [.int x4]) ⟨hx, hb, hml, hown, hts⟩ (cX5_arrivalsOfNextDay_ok l hlt D S0 g b9 k5 _ h) (cwV 0 hts gX5_pass_X5_arrivalsOfNextDay rfl rfl rfl (by decide +kernel) ⟨Nat.le_of_ble_eq_true rfl, Nat.le_of_ble_eq_true rfl⟩) (zpreV (q := (RX5, TX5, 7)) hE hs (xW_start hW) xC_U rfl) rfl rfl hl.1 rfl (lv_room (Nat.le_of_ble_eq_true rfl)) dX5_pass_32 ⟨by show _ ≤ B; omega, by show _ ≤ 8 * (B); omega⟩) hW (fun r11 k12 H locs h hW => ?_)
            replace hW := hW.mono (xR_tr hle)
            refine W.widen (k := n6 + b9) (n := 8 * (n6 + b9)) (by omega) (by omega) ?_
            refine lv_iadd hx hb dX5_pass_35 ?_
            refine lv_istore_n (lv' := [(2, .int (x4 + r11)), (3, .int x3), (0, .ref S0), (1, .int p1)]) hx hb dX5_pass_36 rfl hl (by decide) rfl (fun ls hl => ?_)
            refine lv_iinc (v := (x3 + 1)) (lv' := [(3, .int (x3 + 1)), (2, .int (x4 + r11)), (0, .ref S0), (1, .int p1)]) hx hb dX5_pass_37 hl (k := 1) rfl rfl (by decide) rfl (fun ls hl => ?_)
            refine lv_goto (tgt := 25) hx hb dX5_pass_40 (by decide) ?_
            exact ih25 (x3 + 1) (x4 + r11) (n6 + b9) k12 _ _ _ h  hW (lv_sub hl [0, 1, 2, 3] rfl)
      obtain ⟨f13, h⟩ := h
      exact lp25 f13 0 0 0 k0 _ _ _ h  hW (lv_sub hl [0, 1, 2, 3] rfl)
    · replace h := h.2 c_2
      exact z_throw (text := "days is out of range") hx hb hlt hown (by decide +kernel) (hts (.classLink RX5 54 "java/lang/IllegalArgumentException") (by decide +kernel)) (hts (.initialized "java/lang/IllegalArgumentException") (by decide +kernel)) (by decide +kernel) (vx_hatx hts hxt_X5_pass_58 (by decide +kernel) (by decide +kernel) hE) (by decide +kernel) hE hW (fun n n' f q w => xR_mono n n' f q w) (hl.1.trans hml.symm) dX5_pass_11 dX5_pass_14 dX5_pass_15 dX5_pass_17 dX5_pass_20 hnt (Nat.le_of_ble_eq_true rfl) (Nat.le_of_ble_eq_true rfl) (by have := h.1; show _ ≤ B; omega) (by have := h.1; show _ ≤ 8 * (B); omega) hlocks h.2 (by have := h.1; omega) (by have := h.1; omega)

def wX5_today (S0 : Nat) (k0 : kS) (Q : Int32 → kS → Prop) : Prop := Q (k0.1 2 0) k0
theorem hin_X5_today_5 : ∀ w ∈ u_ws RX5 TX5 7, w ∈ wsX5_today := by decide +kernel
set_option maxHeartbeats 8000000 in
set_option maxRecDepth 100000 in
theorem cX5_today_ok (l : Launch) (hlt : l.stackTraces = false) (D : zD) (S0 : Nat) (g : zF) (k0 : kS)   (Q : Int32 → kS → Prop) (h : wX5_today S0 k0 Q) : Met l yX5_today wsX5_today { frames := 0, cells := 0, slots := 8 * (0), locals := 0 } (zPc D S0 (xR D S0 g k0 k0) [.ref S0]) (va_Qi Q (zB D S0 (fun u => xR D S0 g k0 u)) (zA S0)) (0) (8 * (0)) (zA S0) := by
  refine zMet (cc := cX5_today) (maxL := 1) (ret := (some .int)) (by decide) rfl (Nat.le_of_ble_eq_true rfl) (fun p e s m args below meth c ls hx hb hr hml hown hts hlocks hnm hs hE hW hl => ?_)
  have hsz := xW_sz hW
  have hs0 : S0 ≤ s.heap.size := hs
  have hin5 := hin_X5_today_5
  replace hl : lv_has ls 1 [(0, .ref S0)] := hl
  unfold wX5_today at h
  refine lv_aload_n hx hb dX5_today_0 rfl (lv_at hl 0 rfl) ?_
  refine zw_get (C := RX5) (T := TX5) (N := 7) hx hb hts hin5 hown hE.1 hW xC_U rfl 6 (by decide) (hts (.fieldLink RX5 44 "UnionList" "day" "I") (by decide +kernel)) (fun _ h9 => h9) rfl dX5_today_1 ?_
  refine W.widen (k := 0) (n := 8 * (0)) (by omega) (by omega) ?_
  exact (z_iret hx hb hr hlocks hW h dX5_today_4)

def wX5_owes (S0 : Nat) (k0 : kS) (p1 : Int32) (p2 : Int32) (Q : Int32 → kS → Prop) (QX : String → kS → Prop) : Prop := (wX5_isHouse S0 k0 p1 (fun r1 k2 => ((r1 = 0 → (0 + 1 ≤ 1 ∧ QX "java/lang/IllegalArgumentException" k2)) ∧ (¬ r1 = 0 → (wX5_isHouse S0 k2 p2 (fun r4 k5 => ((r4 = 0 → (0 + 1 ≤ 1 ∧ QX "java/lang/IllegalArgumentException" k5)) ∧ (¬ r4 = 0 → (wX0_balance S0 k5 p1 p2 (fun r7 k8 => Q r7 k8))))))))))
theorem hin_X5_owes_5 : ∀ w ∈ u_ws RX5 TX5 7, w ∈ wsX5_owes := by decide +kernel
theorem hxt_X5_owes_58 : ∀ w ∈ (vx_atS RX5 58 "java/lang/IllegalArgumentException" ["java/lang/RuntimeException", "java/lang/Exception"]).filter goodWord, w ∈ wsX5_owes := by decide +kernel
set_option maxHeartbeats 8000000 in
set_option maxRecDepth 100000 in
theorem cX5_owes_ok (l : Launch) (hlt : l.stackTraces = false) (D : zD) (S0 : Nat) (g : zF) (k0 : kS) (p1 : Int32) (p2 : Int32)  (Q : Int32 → kS → Prop) (QX : String → kS → Prop) (h : wX5_owes S0 k0 p1 p2 Q QX) : vx_Met l yX5_owes wsX5_owes { frames := 6, cells := 1, slots := 8 * (1), locals := 90 } (zPc D S0 (xR D S0 g k0 k0) [.ref S0, .int p1, .int p2]) (va_Qi Q (zB D S0 (fun u => xR D S0 g k0 u)) (zA S0)) (zX D S0 (fun u => xR D S0 g k0 u) QX) (1) (8 * (1)) (zA S0) := by
  refine zMetX (cc := cX5_owes) (maxL := 3) (ret := (some .int)) (by decide) rfl (Nat.le_of_ble_eq_true rfl) (fun p e s m args below meth c ls hx hb hr hml hown hts hlocks hnm hnt hs hE hW hl => ?_)
  have hsz := xW_sz hW
  have hs0 : S0 ≤ s.heap.size := hs
  have hin5 := hin_X5_owes_5
  replace hl : lv_has ls 3 [(0, .ref S0), (1, .int p1), (2, .int p2)] := hl
  unfold wX5_owes at h
  refine lv_iload_n hx hb dX5_owes_0 rfl (lv_at hl 1 rfl) ?_
  have hle := xW_kle hW
  refine zc_i (va_runS (As := [.int p1]) (rest := []) ⟨hx, hb, hml, hown, hts⟩ (cX5_isHouse_ok l hlt D S0 g k0 p1 _ h) (va_cwS 1 hts gX5_owes_X5_isHouse rfl rfl rfl (by decide +kernel) ⟨Nat.le_of_ble_eq_true rfl, Nat.le_of_ble_eq_true rfl⟩) (zpreS hE hs (xW_start hW)) rfl rfl hl.1 rfl (lv_room (Nat.le_of_ble_eq_true rfl)) dX5_owes_1 ⟨by show _ ≤ 1; omega, by show _ ≤ 8 * (1); omega⟩) hW (fun r1 k2 H locs h hW => ?_)
  obtain ⟨h, hz_r1⟩ := h
  replace hW := hW.mono (xR_tr hle)
  refine W.widen (k := 0) (n := 8 * (0)) (by omega) (by omega) ?_
  refine lv_if_eq (tgt := 14) hx hb dX5_owes_4 (by decide) (fun c_3 => ?_) (fun c_3 => ?_)
  · replace h := h.1 c_3
    exact z_throw (text := "house or other is out of range") hx hb hlt hown (by decide +kernel) (hts (.classLink RX5 54 "java/lang/IllegalArgumentException") (by decide +kernel)) (hts (.initialized "java/lang/IllegalArgumentException") (by decide +kernel)) (by decide +kernel) (vx_hatx hts hxt_X5_owes_58 (by decide +kernel) (by decide +kernel) hE) (by decide +kernel) hE hW (fun n n' f q w => xR_mono n n' f q w) (hl.1.trans hml.symm) dX5_owes_14 dX5_owes_17 dX5_owes_18 dX5_owes_20 dX5_owes_23 hnt (Nat.le_of_ble_eq_true rfl) (Nat.le_of_ble_eq_true rfl) (by have := h.1; show _ ≤ 1; omega) (by have := h.1; show _ ≤ 8 * (1); omega) hlocks h.2 (by have := h.1; omega) (by have := h.1; omega)
  · replace h := h.2 c_3
    refine lv_iload_n hx hb dX5_owes_7 rfl (lv_at hl 2 rfl) ?_
    have hle := xW_kle hW
    refine zc_i (va_runS (As := [.int p2]) (rest := []) ⟨hx, hb, hml, hown, hts⟩ (cX5_isHouse_ok l hlt D S0 g k2 p2 _ h) (va_cwS 1 hts gX5_owes_X5_isHouse rfl rfl rfl (by decide +kernel) ⟨Nat.le_of_ble_eq_true rfl, Nat.le_of_ble_eq_true rfl⟩) (zpreS hE hs (xW_start hW)) rfl rfl hl.1 rfl (lv_room (Nat.le_of_ble_eq_true rfl)) dX5_owes_8 ⟨by show _ ≤ 1; omega, by show _ ≤ 8 * (1); omega⟩) hW (fun r4 k5 H locs h hW => ?_)
    obtain ⟨h, hz_r4⟩ := h
    replace hW := hW.mono (xR_tr hle)
    refine W.widen (k := 0) (n := 8 * (0)) (by omega) (by omega) ?_
    refine lv_if_ne (tgt := 24) hx hb dX5_owes_11 (by decide) (fun c_6 => ?_) (fun c_6 => ?_)
    · replace h := h.2 c_6
      refine lv_aload_n hx hb dX5_owes_24 rfl (lv_at hl 0 rfl) ?_
      refine zw_get (C := RX5) (T := TX5) (N := 7) hx hb hts hin5 hown hE.1 hW xC_U rfl 3 (by decide) (hts (.fieldLink RX5 33 "UnionList" "accounts" "LUnionList$Accounts;") (by decide +kernel)) (fun _ h9 => h9) rfl dX5_owes_25 ?_
      refine lv_iload_n hx hb dX5_owes_28 rfl (lv_at hl 1 rfl) ?_
      refine lv_iload_n hx hb dX5_owes_29 rfl (lv_at hl 2 rfl) ?_
      have hle := xW_kle hW
      refine zc_i (va_runV (As := [.int p1, .int p2]) (rest := []) ⟨hx, hb, hml, hown, hts⟩ (cX0_balance_ok l hlt D S0 g k5 p1 p2 _ h) (cwV 2 hts gX5_owes_X0_balance rfl rfl rfl (by decide +kernel) ⟨Nat.le_of_ble_eq_true rfl, Nat.le_of_ble_eq_true rfl⟩) (zpreV (q := (RX0, TX0, 3)) hE hs (xW_start hW) xC_A rfl) rfl rfl hl.1 rfl (lv_room (Nat.le_of_ble_eq_true rfl)) dX5_owes_30 ⟨by show _ ≤ 1; omega, by show _ ≤ 8 * (1); omega⟩) hW (fun r7 k8 H locs h hW => ?_)
      replace hW := hW.mono (xR_tr hle)
      refine W.widen (k := 0) (n := 8 * (0)) (by omega) (by omega) ?_
      refine W.widen (k := 1) (n := 8 * (1)) (by omega) (by omega) ?_
      exact vx_ret (z_iret hx hb hr hlocks hW h dX5_owes_33)
    · replace h := h.1 c_6
      exact z_throw (text := "house or other is out of range") hx hb hlt hown (by decide +kernel) (hts (.classLink RX5 54 "java/lang/IllegalArgumentException") (by decide +kernel)) (hts (.initialized "java/lang/IllegalArgumentException") (by decide +kernel)) (by decide +kernel) (vx_hatx hts hxt_X5_owes_58 (by decide +kernel) (by decide +kernel) hE) (by decide +kernel) hE hW (fun n n' f q w => xR_mono n n' f q w) (hl.1.trans hml.symm) dX5_owes_14 dX5_owes_17 dX5_owes_18 dX5_owes_20 dX5_owes_23 hnt (Nat.le_of_ble_eq_true rfl) (Nat.le_of_ble_eq_true rfl) (by have := h.1; show _ ≤ 1; omega) (by have := h.1; show _ ≤ 8 * (1); omega) hlocks h.2 (by have := h.1; omega) (by have := h.1; omega)

def wX5_settle (S0 : Nat) (k0 : kS) (Q : Int32 → kS → Prop) : Prop := (wX0_clearDebts S0 k0 (fun r1 k2 => Q r1 k2))
theorem hin_X5_settle_5 : ∀ w ∈ u_ws RX5 TX5 7, w ∈ wsX5_settle := by decide +kernel
set_option maxHeartbeats 8000000 in
set_option maxRecDepth 100000 in
theorem cX5_settle_ok (l : Launch) (hlt : l.stackTraces = false) (D : zD) (S0 : Nat) (g : zF) (k0 : kS)   (Q : Int32 → kS → Prop) (h : wX5_settle S0 k0 Q) : Met l yX5_settle wsX5_settle { frames := 3, cells := 0, slots := 8 * (0), locals := 65 } (zPc D S0 (xR D S0 g k0 k0) [.ref S0]) (va_Qi Q (zB D S0 (fun u => xR D S0 g k0 u)) (zA S0)) (0) (8 * (0)) (zA S0) := by
  refine zMet (cc := cX5_settle) (maxL := 1) (ret := (some .int)) (by decide) rfl (Nat.le_of_ble_eq_true rfl) (fun p e s m args below meth c ls hx hb hr hml hown hts hlocks hnm hs hE hW hl => ?_)
  have hsz := xW_sz hW
  have hs0 : S0 ≤ s.heap.size := hs
  have hin5 := hin_X5_settle_5
  replace hl : lv_has ls 1 [(0, .ref S0)] := hl
  unfold wX5_settle at h
  refine lv_aload_n hx hb dX5_settle_0 rfl (lv_at hl 0 rfl) ?_
  refine zw_get (C := RX5) (T := TX5) (N := 7) hx hb hts hin5 hown hE.1 hW xC_U rfl 3 (by decide) (hts (.fieldLink RX5 33 "UnionList" "accounts" "LUnionList$Accounts;") (by decide +kernel)) (fun _ h9 => h9) rfl dX5_settle_1 ?_
  have hle := xW_kle hW
  refine zc_i (va_runV (As := []) (rest := []) ⟨hx, hb, hml, hown, hts⟩ (cX0_clearDebts_ok l hlt D S0 g k0 _ h) (cwV 0 hts gX5_settle_X0_clearDebts rfl rfl rfl (by decide +kernel) ⟨Nat.le_of_ble_eq_true rfl, Nat.le_of_ble_eq_true rfl⟩) (zpreV (q := (RX0, TX0, 3)) hE hs (xW_start hW) xC_A rfl) rfl rfl hl.1 rfl (lv_room (Nat.le_of_ble_eq_true rfl)) dX5_settle_4 ⟨by show _ ≤ 0; omega, by show _ ≤ 8 * (0); omega⟩) hW (fun r1 k2 H locs h hW => ?_)
  replace hW := hW.mono (xR_tr hle)
  refine W.widen (k := 0) (n := 8 * (0)) (by omega) (by omega) ?_
  refine W.widen (k := 0) (n := 8 * (0)) (by omega) (by omega) ?_
  exact (z_iret hx hb hr hlocks hW h dX5_settle_7)

def wX5_quota (S0 : Nat) (k0 : kS) (p1 : Int32) (Q : Int32 → kS → Prop) (QX : String → kS → Prop) : Prop := (wX5_isHouse S0 k0 p1 (fun r1 k2 => ((r1 = 0 → (0 + 1 ≤ 1 ∧ QX "java/lang/IllegalArgumentException" k2)) ∧ (¬ r1 = 0 → (wX0_freeLoansOf S0 k2 p1 (fun r4 k5 => Q r4 k5))))))
theorem hin_X5_quota_5 : ∀ w ∈ u_ws RX5 TX5 7, w ∈ wsX5_quota := by decide +kernel
theorem hxt_X5_quota_58 : ∀ w ∈ (vx_atS RX5 58 "java/lang/IllegalArgumentException" ["java/lang/RuntimeException", "java/lang/Exception"]).filter goodWord, w ∈ wsX5_quota := by decide +kernel
set_option maxHeartbeats 8000000 in
set_option maxRecDepth 100000 in
theorem cX5_quota_ok (l : Launch) (hlt : l.stackTraces = false) (D : zD) (S0 : Nat) (g : zF) (k0 : kS) (p1 : Int32)  (Q : Int32 → kS → Prop) (QX : String → kS → Prop) (h : wX5_quota S0 k0 p1 Q QX) : vx_Met l yX5_quota wsX5_quota { frames := 6, cells := 1, slots := 8 * (1), locals := 90 } (zPc D S0 (xR D S0 g k0 k0) [.ref S0, .int p1]) (va_Qi Q (zB D S0 (fun u => xR D S0 g k0 u)) (zA S0)) (zX D S0 (fun u => xR D S0 g k0 u) QX) (1) (8 * (1)) (zA S0) := by
  refine zMetX (cc := cX5_quota) (maxL := 2) (ret := (some .int)) (by decide) rfl (Nat.le_of_ble_eq_true rfl) (fun p e s m args below meth c ls hx hb hr hml hown hts hlocks hnm hnt hs hE hW hl => ?_)
  have hsz := xW_sz hW
  have hs0 : S0 ≤ s.heap.size := hs
  have hin5 := hin_X5_quota_5
  replace hl : lv_has ls 2 [(0, .ref S0), (1, .int p1)] := hl
  unfold wX5_quota at h
  refine lv_iload_n hx hb dX5_quota_0 rfl (lv_at hl 1 rfl) ?_
  have hle := xW_kle hW
  refine zc_i (va_runS (As := [.int p1]) (rest := []) ⟨hx, hb, hml, hown, hts⟩ (cX5_isHouse_ok l hlt D S0 g k0 p1 _ h) (va_cwS 1 hts gX5_quota_X5_isHouse rfl rfl rfl (by decide +kernel) ⟨Nat.le_of_ble_eq_true rfl, Nat.le_of_ble_eq_true rfl⟩) (zpreS hE hs (xW_start hW)) rfl rfl hl.1 rfl (lv_room (Nat.le_of_ble_eq_true rfl)) dX5_quota_1 ⟨by show _ ≤ 1; omega, by show _ ≤ 8 * (1); omega⟩) hW (fun r1 k2 H locs h hW => ?_)
  obtain ⟨h, hz_r1⟩ := h
  replace hW := hW.mono (xR_tr hle)
  refine W.widen (k := 0) (n := 8 * (0)) (by omega) (by omega) ?_
  refine lv_if_ne (tgt := 17) hx hb dX5_quota_4 (by decide) (fun c_3 => ?_) (fun c_3 => ?_)
  · replace h := h.2 c_3
    refine lv_aload_n hx hb dX5_quota_17 rfl (lv_at hl 0 rfl) ?_
    refine zw_get (C := RX5) (T := TX5) (N := 7) hx hb hts hin5 hown hE.1 hW xC_U rfl 3 (by decide) (hts (.fieldLink RX5 33 "UnionList" "accounts" "LUnionList$Accounts;") (by decide +kernel)) (fun _ h9 => h9) rfl dX5_quota_18 ?_
    refine lv_iload_n hx hb dX5_quota_21 rfl (lv_at hl 1 rfl) ?_
    have hle := xW_kle hW
    refine zc_i (va_runV (As := [.int p1]) (rest := []) ⟨hx, hb, hml, hown, hts⟩ (cX0_freeLoansOf_ok l hlt D S0 g k2 p1 _ h) (cwV 1 hts gX5_quota_X0_freeLoansOf rfl rfl rfl (by decide +kernel) ⟨Nat.le_of_ble_eq_true rfl, Nat.le_of_ble_eq_true rfl⟩) (zpreV (q := (RX0, TX0, 3)) hE hs (xW_start hW) xC_A rfl) rfl rfl hl.1 rfl (lv_room (Nat.le_of_ble_eq_true rfl)) dX5_quota_22 ⟨by show _ ≤ 1; omega, by show _ ≤ 8 * (1); omega⟩) hW (fun r4 k5 H locs h hW => ?_)
    replace hW := hW.mono (xR_tr hle)
    refine W.widen (k := 0) (n := 8 * (0)) (by omega) (by omega) ?_
    refine W.widen (k := 1) (n := 8 * (1)) (by omega) (by omega) ?_
    exact vx_ret (z_iret hx hb hr hlocks hW h dX5_quota_25)
  · replace h := h.1 c_3
    exact z_throw (text := "house is out of range") hx hb hlt hown (by decide +kernel) (hts (.classLink RX5 54 "java/lang/IllegalArgumentException") (by decide +kernel)) (hts (.initialized "java/lang/IllegalArgumentException") (by decide +kernel)) (by decide +kernel) (vx_hatx hts hxt_X5_quota_58 (by decide +kernel) (by decide +kernel) hE) (by decide +kernel) hE hW (fun n n' f q w => xR_mono n n' f q w) (hl.1.trans hml.symm) dX5_quota_7 dX5_quota_10 dX5_quota_11 dX5_quota_13 dX5_quota_16 hnt (Nat.le_of_ble_eq_true rfl) (Nat.le_of_ble_eq_true rfl) (by have := h.1; show _ ≤ 1; omega) (by have := h.1; show _ ≤ 8 * (1); omega) hlocks h.2 (by have := h.1; omega) (by have := h.1; omega)
