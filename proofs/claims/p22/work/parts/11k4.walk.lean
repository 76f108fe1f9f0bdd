def wX5_nearestListedFree_l18 (S0 : Nat) (c1 : Nat) (Q : Option Nat → kS → Prop) : Nat → Int32 → Int32 → Option Nat → kS → Prop
  | 0, _, _, _, _ => False
  | f5 + 1, x1, x2, y3, k4 => ((y3 = none → ((20 ≤ x1 → Q none k4) ∧ (¬ 20 ≤ x1 → (vp_in x1 20 ∧ (((k4.2.1 0 x1.toNatClampNeg) = none → (wX5_nearestListedFree_l18 S0 c1 Q f5 (x1 + 1) x2 none k4)) ∧ (∀ o11 : Nat, (k4.2.1 0 x1.toNatClampNeg) = some o11 → (wX3_mayAskFor S0 k4 c1 o11 (fun r14 k15 => ((r14 = 0 → (wX5_nearestListedFree_l18 S0 c1 Q f5 (x1 + 1) x2 none k15)) ∧ (¬ r14 = 0 → (wX5_way S0 k15 (k15.1 20 c1) (k15.1 11 o11) (fun r17 k18 => (wX5_nearestListedFree_l18 S0 c1 Q f5 (x1 + 1) r17 (some o11) k18))))))))))))) ∧ (∀ o6 : Nat, y3 = some o6 → ((20 ≤ x1 → Q (some o6) k4) ∧ (¬ 20 ≤ x1 → (vp_in x1 20 ∧ (((k4.2.1 0 x1.toNatClampNeg) = none → (wX5_nearestListedFree_l18 S0 c1 Q f5 (x1 + 1) x2 (some o6) k4)) ∧ (∀ o21 : Nat, (k4.2.1 0 x1.toNatClampNeg) = some o21 → (wX3_mayAskFor S0 k4 c1 o21 (fun r24 k25 => ((r24 = 0 → (wX5_nearestListedFree_l18 S0 c1 Q f5 (x1 + 1) x2 (some o6) k25)) ∧ (¬ r24 = 0 → (wX5_way S0 k25 (k25.1 20 c1) (k25.1 11 o21) (fun r27 k28 => ((x2 ≤ r27 → (wX5_nearestListedFree_l18 S0 c1 Q f5 (x1 + 1) x2 (some o6) k28)) ∧ (¬ x2 ≤ r27 → (wX5_nearestListedFree_l18 S0 c1 Q f5 (x1 + 1) r27 (some o21) k28))))))))))))))))
def wX5_nearestListedFree (S0 : Nat) (k0 : kS) (c1 : Nat) (Q : Option Nat → kS → Prop) : Prop := (∃ f30 : Nat, wX5_nearestListedFree_l18 S0 c1 Q f30 0 0 none k0)
theorem hin_X5_nearestListedFree_1 : ∀ w ∈ u_ws RX1 TX1 8, w ∈ wsX5_nearestListedFree := by decide +kernel
theorem hin_X5_nearestListedFree_3 : ∀ w ∈ u_ws RX3 TX3 7, w ∈ wsX5_nearestListedFree := by decide +kernel
theorem hin_X5_nearestListedFree_5 : ∀ w ∈ u_ws RX5 TX5 7, w ∈ wsX5_nearestListedFree := by decide +kernel
set_option maxHeartbeats 8000000 in
set_option maxRecDepth 100000 in
theorem cX5_nearestListedFree_ok (l : Launch) (hlt : l.stackTraces = false) (D : zD) (S0 : Nat) (g : zF) (k0 : kS) (c1 : Nat) (hc1 : k0.2.2 c1 = 3) (Q : Option Nat → kS → Prop) (h : wX5_nearestListedFree S0 k0 c1 Q) : Met l yX5_nearestListedFree wsX5_nearestListedFree { frames := 2, cells := 0, slots := 8 * (0), locals := 43 } (zPc D S0 (xR D S0 g k0 k0) [.ref S0, .ref c1]) (va_Qq (fun r u => Q r u ∧ ∀ c, r = some c → u.2.2 c = 1) (zB D S0 (fun u => xR D S0 g k0 u)) (zA S0)) (0) (8 * (0)) (zA S0) := by
  refine zMet (cc := cX5_nearestListedFree) (maxL := 9) (ret := (some (.object "UnionList$Copy"))) (by decide) rfl (Nat.le_of_ble_eq_true rfl) (fun p e s m args below meth c ls hx hb hr hml hown hts hlocks hnm hs hE hW hl => ?_)
  have hsz := xW_sz hW
  have hs0 : S0 ≤ s.heap.size := hs
  have hin1 := hin_X5_nearestListedFree_1
  have hin3 := hin_X5_nearestListedFree_3
  have hin5 := hin_X5_nearestListedFree_5
  replace hl : lv_has ls 9 [(0, .ref S0), (1, .ref c1)] := hl
  unfold wX5_nearestListedFree at h
  refine lv_null hx hb dX5_nearestListedFree_0 ?_
  refine lv_astore_nN (lv' := [(2, .null), (0, .ref S0), (1, .ref c1)]) hx hb dX5_nearestListedFree_1 rfl hl (by decide) rfl (fun ls hl => ?_)
  refine lv_iconst (v := 0) hx hb dX5_nearestListedFree_2 (by decide) ?_
  refine lv_istore_n (lv' := [(3, .int 0), (2, .null), (0, .ref S0), (1, .ref c1)]) hx hb dX5_nearestListedFree_3 rfl hl (by decide) rfl (fun ls hl => ?_)
  refine lv_aload_n hx hb dX5_nearestListedFree_4 rfl (lv_at hl 2 rfl) ?_
  refine zw_get (C := RX5) (T := TX5) (N := 7) hx hb hts hin5 hown hE.1 hW xC_U rfl 0 (by decide) (hts (.fieldLink RX5 11 "UnionList" "copies" "[LUnionList$Copy;") (by decide +kernel)) (fun _ h9 => h9) rfl dX5_nearestListedFree_5 ?_
  refine lv_astore (lv' := [(4, .ref (S0 + 1)), (3, .int 0), (2, .null), (0, .ref S0), (1, .ref c1)]) hx hb dX5_nearestListedFree_8 hl (by decide) rfl (fun ls hl => ?_)
  refine lv_aload hx hb dX5_nearestListedFree_10 (lv_at hl 0 rfl) ?_
  refine zw_alen (v := 20) hx hb hE.1 hW 1 rfl xC_q0 rfl dX5_nearestListedFree_12 ?_
  refine lv_istore (lv' := [(5, .int 20), (4, .ref (S0 + 1)), (3, .int 0), (2, .null), (0, .ref S0), (1, .ref c1)]) hx hb dX5_nearestListedFree_13 hl (by decide) rfl (fun ls hl => ?_)
  refine lv_iconst (v := 0) hx hb dX5_nearestListedFree_15 (by decide) ?_
  refine lv_istore (lv' := [(6, .int 0), (5, .int 20), (4, .ref (S0 + 1)), (3, .int 0), (2, .null), (0, .ref S0), (1, .ref c1)]) hx hb dX5_nearestListedFree_16 hl (by decide) rfl (fun ls hl => ?_)
  have lp18 : ∀ (f5 : Nat) (x1 : Int32) (x2 : Int32) (y3 : Option Nat) (k4 : kS) (H : Heap) (locs : List Loc) (ls : Array Slot), wX5_nearestListedFree_l18 S0 c1 Q f5 x1 x2 y3 k4 → k4.2.2 c1 = 3 → (∀ c, y3 = some c → k4.2.2 c = 1) → zW D S0 (xR D S0 g k0 k4) s.heap H locs → lv_has ls 9 [(6, .int x1), (5, .int 20), (4, .ref (S0 + 1)), (3, .int x2), (2, va_rf y3), (0, .ref S0), (1, .ref c1)] → W p l e { frames := 2, cells := 0, slots := 8 * (0), locals := 43 } s m args below meth c H locs (0) (8 * (0)) (MQ below (va_Qq (fun r u => Q r u ∧ ∀ c, r = some c → u.2.2 c = 1) (zB D S0 (fun u => xR D S0 g k0 u)) (zA S0)) args s (0) (8 * (0)) (zA S0)) (F0 m 18 ls []) := by
    intro f5
    induction f5 with
    | zero => intro x1 x2 y3 k4 H locs ls h; exact h.elim
    | succ f5 ih18 =>
      intro x1 x2 y3 k4 H locs ls h hc1 hy_y3 hW hl
      unfold wX5_nearestListedFree_l18 at h
      rcases y3 with _ | o6
      · replace h := h.1 rfl
        refine lv_iload hx hb dX5_nearestListedFree_18 (lv_at hl 0 rfl) ?_
        refine lv_iload hx hb dX5_nearestListedFree_20 (lv_at hl 1 rfl) ?_
        refine lv_icmp_ge (tgt := 85) hx hb dX5_nearestListedFree_22 (by decide) (fun c_9 => ?_) (fun c_9 => ?_)
        · replace h := h.1 c_9
          refine lv_aload_nN hx hb dX5_nearestListedFree_85 rfl (lv_at hl 4 rfl) ?_
          refine W.widen (k := 0) (n := 8 * (0)) (by omega) (by omega) ?_
          exact (z_aret none rfl hx hb hr hlocks hW ⟨h, (fun _ h9 => nomatch h9)⟩ dX5_nearestListedFree_86)
        · replace h := h.2 c_9
          refine lv_aload hx hb dX5_nearestListedFree_25 (lv_at hl 2 rfl) ?_
          refine lv_iload hx hb dX5_nearestListedFree_27 (lv_at hl 0 rfl) ?_
          obtain ⟨hb_10, h⟩ := h
          refine zw_aldq hx hb hE.1 hW 1 rfl xC_q0 hb_10 dX5_nearestListedFree_29 ?_
          rcases eo_12 : (k4.2.1 0 x1.toNatClampNeg) with _ | o11
          · replace h := h.1 eo_12
            refine lv_astoreN (lv' := [(7, .null), (6, .int x1), (5, .int 20), (4, .ref (S0 + 1)), (3, .int x2), (2, .null), (0, .ref S0), (1, .ref c1)]) hx hb dX5_nearestListedFree_30 hl (by decide) rfl (fun ls hl => ?_)
            refine lv_aloadN hx hb dX5_nearestListedFree_32 (lv_at hl 0 rfl) ?_
            refine lv_ifnullN (tgt := 79) hx hb dX5_nearestListedFree_34 (by decide) ?_
            refine lv_iinc (v := (x1 + 1)) (lv' := [(6, .int (x1 + 1)), (7, .null), (5, .int 20), (4, .ref (S0 + 1)), (3, .int x2), (2, .null), (0, .ref S0), (1, .ref c1)]) hx hb dX5_nearestListedFree_79 hl (k := 1) rfl rfl (by decide) rfl (fun ls hl => ?_)
            refine lv_goto (tgt := 18) hx hb dX5_nearestListedFree_82 (by decide) ?_
            exact ih18 (x1 + 1) x2 none k4 _ _ _ h hc1 (fun _ h9 => nomatch h9) hW (lv_sub hl [0, 2, 3, 4, 5, 6, 7] rfl)
          · replace h := h.2 o11 eo_12
            have hc_13 : k4.2.2 o11 = 1 := (xW_T hW).1 _ _ eo_12
            refine lv_astore (lv' := [(7, .ref o11), (6, .int x1), (5, .int 20), (4, .ref (S0 + 1)), (3, .int x2), (2, .null), (0, .ref S0), (1, .ref c1)]) hx hb dX5_nearestListedFree_30 hl (by decide) rfl (fun ls hl => ?_)
            refine lv_aload hx hb dX5_nearestListedFree_32 (lv_at hl 0 rfl) ?_
            refine lv_ifnull hx hb dX5_nearestListedFree_34 ?_
            refine lv_aload_n hx hb dX5_nearestListedFree_37 rfl (lv_at hl 7 rfl) ?_
            refine lv_aload hx hb dX5_nearestListedFree_38 (lv_at hl 0 rfl) ?_
            have hle := xW_kle hW
            refine zc_i (va_runV (As := [.ref o11]) (rest := []) ⟨hx, hb, hml, hown, hts⟩ (cX3_mayAskFor_ok l hlt D S0 g k4 c1 o11 hc1 hc_13 _ h) (cwV 1 hts gX5_nearestListedFree_X3_mayAskFor rfl rfl rfl (by decide +kernel) ⟨Nat.le_of_ble_eq_true rfl, Nat.le_of_ble_eq_true rfl⟩) (zpreV (q := (RX3, TX3, 7)) hE hs (xW_start hW) (xC_R hc1) rfl) rfl rfl hl.1 rfl (lv_room (Nat.le_of_ble_eq_true rfl)) dX5_nearestListedFree_40 ⟨by show _ ≤ 0; omega, by show _ ≤ 8 * (0); omega⟩) hW (fun r14 k15 H locs h hW => ?_)
            obtain ⟨h, hz_r14⟩ := h
            replace hc1 := kle_3 (xW_kle hW) hc1
            replace hc_13 := kle_1 (xW_kle hW) hc_13
            replace hW := hW.mono (xR_tr hle)
            refine W.widen (k := 0) (n := 8 * (0)) (by omega) (by omega) ?_
            refine lv_if_ne (tgt := 49) hx hb dX5_nearestListedFree_43 (by decide) (fun c_16 => ?_) (fun c_16 => ?_)
            · replace h := h.2 c_16
              refine lv_aload_n hx hb dX5_nearestListedFree_49 rfl (lv_at hl 7 rfl) ?_
              refine zw_get (C := RX3) (T := TX3) (N := 7) hx hb hts hin3 hown hE.1 hW (xC_R hc1) rfl 0 (by decide) (hts (.fieldLink RX5 146 "UnionList$Request" "house" "I") (by decide +kernel)) (fun _ h9 => h9) rfl dX5_nearestListedFree_50 ?_
              refine lv_aload hx hb dX5_nearestListedFree_53 (lv_at hl 0 rfl) ?_
              refine zw_get (C := RX1) (T := TX1) (N := 8) hx hb hts hin1 hown hE.1 hW (xC_C hc_13) rfl 1 (by decide) (hts (.fieldLink RX5 149 "UnionList$Copy" "home" "I") (by decide +kernel)) (fun _ h9 => h9) rfl dX5_nearestListedFree_55 ?_
              have hle := xW_kle hW
              refine zc_i (va_runS (As := [.int (k15.1 20 c1), .int (k15.1 11 o11)]) (rest := []) ⟨hx, hb, hml, hown, hts⟩ (cX5_way_ok l hlt D S0 g k15 (k15.1 20 c1) (k15.1 11 o11) _ h) (va_cwS 2 hts gX5_nearestListedFree_X5_way rfl rfl rfl (by decide +kernel) ⟨Nat.le_of_ble_eq_true rfl, Nat.le_of_ble_eq_true rfl⟩) (zpreS hE hs (xW_start hW)) rfl rfl hl.1 rfl (lv_room (Nat.le_of_ble_eq_true rfl)) dX5_nearestListedFree_58 ⟨by show _ ≤ 0; omega, by show _ ≤ 8 * (0); omega⟩) hW (fun r17 k18 H locs h hW => ?_)
              replace hc1 := kle_3 (xW_kle hW) hc1
              replace hc_13 := kle_1 (xW_kle hW) hc_13
              replace hW := hW.mono (xR_tr hle)
              refine W.widen (k := 0) (n := 8 * (0)) (by omega) (by omega) ?_
              refine lv_istore (lv' := [(8, .int r17), (7, .ref o11), (6, .int x1), (5, .int 20), (4, .ref (S0 + 1)), (3, .int x2), (2, .null), (0, .ref S0), (1, .ref c1)]) hx hb dX5_nearestListedFree_61 hl (by decide) rfl (fun ls hl => ?_)
              refine lv_aload_nN hx hb dX5_nearestListedFree_63 rfl (lv_at hl 6 rfl) ?_
              refine lv_ifnullN (tgt := 73) hx hb dX5_nearestListedFree_64 (by decide) ?_
              refine lv_aload hx hb dX5_nearestListedFree_73 (lv_at hl 1 rfl) ?_
              refine lv_astore_n (lv' := [(2, .ref o11), (8, .int r17), (7, .ref o11), (6, .int x1), (5, .int 20), (4, .ref (S0 + 1)), (3, .int x2), (0, .ref S0), (1, .ref c1)]) hx hb dX5_nearestListedFree_75 rfl hl (by decide) rfl (fun ls hl => ?_)
              refine lv_iload hx hb dX5_nearestListedFree_76 (lv_at hl 1 rfl) ?_
              refine lv_istore_n (lv' := [(3, .int r17), (2, .ref o11), (8, .int r17), (7, .ref o11), (6, .int x1), (5, .int 20), (4, .ref (S0 + 1)), (0, .ref S0), (1, .ref c1)]) hx hb dX5_nearestListedFree_78 rfl hl (by decide) rfl (fun ls hl => ?_)
              refine lv_iinc (v := (x1 + 1)) (lv' := [(6, .int (x1 + 1)), (3, .int r17), (2, .ref o11), (8, .int r17), (7, .ref o11), (5, .int 20), (4, .ref (S0 + 1)), (0, .ref S0), (1, .ref c1)]) hx hb dX5_nearestListedFree_79 hl (k := 4) rfl rfl (by decide) rfl (fun ls hl => ?_)
              refine lv_goto (tgt := 18) hx hb dX5_nearestListedFree_82 (by decide) ?_
              exact ih18 (x1 + 1) r17 (some o11) k18 _ _ _ h hc1 (fun _ h9 => by cases h9; exact hc_13) hW (lv_sub hl [0, 5, 6, 1, 2, 7, 8] rfl)
            · replace h := h.1 c_16
              refine lv_goto (tgt := 79) hx hb dX5_nearestListedFree_46 (by decide) ?_
              refine lv_iinc (v := (x1 + 1)) (lv' := [(6, .int (x1 + 1)), (7, .ref o11), (5, .int 20), (4, .ref (S0 + 1)), (3, .int x2), (2, .null), (0, .ref S0), (1, .ref c1)]) hx hb dX5_nearestListedFree_79 hl (k := 1) rfl rfl (by decide) rfl (fun ls hl => ?_)
              refine lv_goto (tgt := 18) hx hb dX5_nearestListedFree_82 (by decide) ?_
              exact ih18 (x1 + 1) x2 none k15 _ _ _ h hc1 (fun _ h9 => nomatch h9) hW (lv_sub hl [0, 2, 3, 4, 5, 6, 7] rfl)
      · replace h := h.2 o6 rfl
        have hc_8 : k4.2.2 o6 = 1 := hy_y3 o6 rfl
        refine lv_iload hx hb dX5_nearestListedFree_18 (lv_at hl 0 rfl) ?_
        refine lv_iload hx hb dX5_nearestListedFree_20 (lv_at hl 1 rfl) ?_
        refine lv_icmp_ge (tgt := 85) hx hb dX5_nearestListedFree_22 (by decide) (fun c_19 => ?_) (fun c_19 => ?_)
        · replace h := h.1 c_19
          refine lv_aload_n hx hb dX5_nearestListedFree_85 rfl (lv_at hl 4 rfl) ?_
          refine W.widen (k := 0) (n := 8 * (0)) (by omega) (by omega) ?_
          exact (z_aret (some o6) rfl hx hb hr hlocks hW ⟨h, (fun _ h9 => by cases h9; exact hc_8)⟩ dX5_nearestListedFree_86)
        · replace h := h.2 c_19
          refine lv_aload hx hb dX5_nearestListedFree_25 (lv_at hl 2 rfl) ?_
          refine lv_iload hx hb dX5_nearestListedFree_27 (lv_at hl 0 rfl) ?_
          obtain ⟨hb_20, h⟩ := h
          refine zw_aldq hx hb hE.1 hW 1 rfl xC_q0 hb_20 dX5_nearestListedFree_29 ?_
          rcases eo_22 : (k4.2.1 0 x1.toNatClampNeg) with _ | o21
          · replace h := h.1 eo_22
            refine lv_astoreN (lv' := [(7, .null), (6, .int x1), (5, .int 20), (4, .ref (S0 + 1)), (3, .int x2), (2, .ref o6), (0, .ref S0), (1, .ref c1)]) hx hb dX5_nearestListedFree_30 hl (by decide) rfl (fun ls hl => ?_)
            refine lv_aloadN hx hb dX5_nearestListedFree_32 (lv_at hl 0 rfl) ?_
            refine lv_ifnullN (tgt := 79) hx hb dX5_nearestListedFree_34 (by decide) ?_
            refine lv_iinc (v := (x1 + 1)) (lv' := [(6, .int (x1 + 1)), (7, .null), (5, .int 20), (4, .ref (S0 + 1)), (3, .int x2), (2, .ref o6), (0, .ref S0), (1, .ref c1)]) hx hb dX5_nearestListedFree_79 hl (k := 1) rfl rfl (by decide) rfl (fun ls hl => ?_)
            refine lv_goto (tgt := 18) hx hb dX5_nearestListedFree_82 (by decide) ?_
            exact ih18 (x1 + 1) x2 (some o6) k4 _ _ _ h hc1 (fun _ h9 => by cases h9; exact hc_8) hW (lv_sub hl [0, 2, 3, 4, 5, 6, 7] rfl)
          · replace h := h.2 o21 eo_22
            have hc_23 : k4.2.2 o21 = 1 := (xW_T hW).1 _ _ eo_22
            refine lv_astore (lv' := [(7, .ref o21), (6, .int x1), (5, .int 20), (4, .ref (S0 + 1)), (3, .int x2), (2, .ref o6), (0, .ref S0), (1, .ref c1)]) hx hb dX5_nearestListedFree_30 hl (by decide) rfl (fun ls hl => ?_)
            refine lv_aload hx hb dX5_nearestListedFree_32 (lv_at hl 0 rfl) ?_
            refine lv_ifnull hx hb dX5_nearestListedFree_34 ?_
            refine lv_aload_n hx hb dX5_nearestListedFree_37 rfl (lv_at hl 7 rfl) ?_
            refine lv_aload hx hb dX5_nearestListedFree_38 (lv_at hl 0 rfl) ?_
            have hle := xW_kle hW
            refine zc_i (va_runV (As := [.ref o21]) (rest := []) ⟨hx, hb, hml, hown, hts⟩ (cX3_mayAskFor_ok l hlt D S0 g k4 c1 o21 hc1 hc_23 _ h) (cwV 1 hts gX5_nearestListedFree_X3_mayAskFor rfl rfl rfl (by decide +kernel) ⟨Nat.le_of_ble_eq_true rfl, Nat.le_of_ble_eq_true rfl⟩) (zpreV (q := (RX3, TX3, 7)) hE hs (xW_start hW) (xC_R hc1) rfl) rfl rfl hl.1 rfl (lv_room (Nat.le_of_ble_eq_true rfl)) dX5_nearestListedFree_40 ⟨by show _ ≤ 0; omega, by show _ ≤ 8 * (0); omega⟩) hW (fun r24 k25 H locs h hW => ?_)
            obtain ⟨h, hz_r24⟩ := h
            replace hc1 := kle_3 (xW_kle hW) hc1
            replace hc_8 := kle_1 (xW_kle hW) hc_8
            replace hc_23 := kle_1 (xW_kle hW) hc_23
            replace hW := hW.mono (xR_tr hle)
            refine W.widen (k := 0) (n := 8 * (0)) (by omega) (by omega) ?_
            refine lv_if_ne (tgt := 49) hx hb dX5_nearestListedFree_43 (by decide) (fun c_26 => ?_) (fun c_26 => ?_)
            · replace h := h.2 c_26
              refine lv_aload_n hx hb dX5_nearestListedFree_49 rfl (lv_at hl 7 rfl) ?_
              refine zw_get (C := RX3) (T := TX3) (N := 7) hx hb hts hin3 hown hE.1 hW (xC_R hc1) rfl 0 (by decide) (hts (.fieldLink RX5 146 "UnionList$Request" "house" "I") (by decide +kernel)) (fun _ h9 => h9) rfl dX5_nearestListedFree_50 ?_
              refine lv_aload hx hb dX5_nearestListedFree_53 (lv_at hl 0 rfl) ?_
              refine zw_get (C := RX1) (T := TX1) (N := 8) hx hb hts hin1 hown hE.1 hW (xC_C hc_23) rfl 1 (by decide) (hts (.fieldLink RX5 149 "UnionList$Copy" "home" "I") (by decide +kernel)) (fun _ h9 => h9) rfl dX5_nearestListedFree_55 ?_
              have hle := xW_kle hW
              refine zc_i (va_runS (As := [.int (k25.1 20 c1), .int (k25.1 11 o21)]) (rest := []) ⟨hx, hb, hml, hown, hts⟩ (cX5_way_ok l hlt D S0 g k25 (k25.1 20 c1) (k25.1 11 o21) _ h) (va_cwS 2 hts gX5_nearestListedFree_X5_way rfl rfl rfl (by decide +kernel) ⟨Nat.le_of_ble_eq_true rfl, Nat.le_of_ble_eq_true rfl⟩) (zpreS hE hs (xW_start hW)) rfl rfl hl.1 rfl (lv_room (Nat.le_of_ble_eq_true rfl)) dX5_nearestListedFree_58 ⟨by show _ ≤ 0; omega, by show _ ≤ 8 * (0); omega⟩) hW (fun r27 k28 H locs h hW => ?_)
              replace hc1 := kle_3 (xW_kle hW) hc1
              replace hc_8 := kle_1 (xW_kle hW) hc_8
              replace hc_23 := kle_1 (xW_kle hW) hc_23
              replace hW := hW.mono (xR_tr hle)
              refine W.widen (k := 0) (n := 8 * (0)) (by omega) (by omega) ?_
              refine lv_istore (lv' := [(8, .int r27), (7, .ref o21), (6, .int x1), (5, .int 20), (4, .ref (S0 + 1)), (3, .int x2), (2, .ref o6), (0, .ref S0), (1, .ref c1)]) hx hb dX5_nearestListedFree_61 hl (by decide) rfl (fun ls hl => ?_)
              refine lv_aload_n hx hb dX5_nearestListedFree_63 rfl (lv_at hl 6 rfl) ?_
              refine lv_ifnull hx hb dX5_nearestListedFree_64 ?_
              refine lv_iload hx hb dX5_nearestListedFree_67 (lv_at hl 0 rfl) ?_
              refine lv_iload_n hx hb dX5_nearestListedFree_69 rfl (lv_at hl 5 rfl) ?_
              refine lv_icmp_ge (tgt := 79) hx hb dX5_nearestListedFree_70 (by decide) (fun c_29 => ?_) (fun c_29 => ?_)
              · replace h := h.1 c_29
                refine lv_iinc (v := (x1 + 1)) (lv' := [(6, .int (x1 + 1)), (8, .int r27), (7, .ref o21), (5, .int 20), (4, .ref (S0 + 1)), (3, .int x2), (2, .ref o6), (0, .ref S0), (1, .ref c1)]) hx hb dX5_nearestListedFree_79 hl (k := 2) rfl rfl (by decide) rfl (fun ls hl => ?_)
                refine lv_goto (tgt := 18) hx hb dX5_nearestListedFree_82 (by decide) ?_
                exact ih18 (x1 + 1) x2 (some o6) k28 _ _ _ h hc1 (fun _ h9 => by cases h9; exact hc_8) hW (lv_sub hl [0, 3, 4, 5, 6, 7, 8] rfl)
              · replace h := h.2 c_29
                refine lv_aload hx hb dX5_nearestListedFree_73 (lv_at hl 1 rfl) ?_
                refine lv_astore_n (lv' := [(2, .ref o21), (8, .int r27), (7, .ref o21), (6, .int x1), (5, .int 20), (4, .ref (S0 + 1)), (3, .int x2), (0, .ref S0), (1, .ref c1)]) hx hb dX5_nearestListedFree_75 rfl hl (by decide) rfl (fun ls hl => ?_)
                refine lv_iload hx hb dX5_nearestListedFree_76 (lv_at hl 1 rfl) ?_
                refine lv_istore_n (lv' := [(3, .int r27), (2, .ref o21), (8, .int r27), (7, .ref o21), (6, .int x1), (5, .int 20), (4, .ref (S0 + 1)), (0, .ref S0), (1, .ref c1)]) hx hb dX5_nearestListedFree_78 rfl hl (by decide) rfl (fun ls hl => ?_)
                refine lv_iinc (v := (x1 + 1)) (lv' := [(6, .int (x1 + 1)), (3, .int r27), (2, .ref o21), (8, .int r27), (7, .ref o21), (5, .int 20), (4, .ref (S0 + 1)), (0, .ref S0), (1, .ref c1)]) hx hb dX5_nearestListedFree_79 hl (k := 4) rfl rfl (by decide) rfl (fun ls hl => ?_)
                refine lv_goto (tgt := 18) hx hb dX5_nearestListedFree_82 (by decide) ?_
                exact ih18 (x1 + 1) r27 (some o21) k28 _ _ _ h hc1 (fun _ h9 => by cases h9; exact hc_23) hW (lv_sub hl [0, 5, 6, 1, 2, 7, 8] rfl)
            · replace h := h.1 c_26
              refine lv_goto (tgt := 79) hx hb dX5_nearestListedFree_46 (by decide) ?_
              refine lv_iinc (v := (x1 + 1)) (lv' := [(6, .int (x1 + 1)), (7, .ref o21), (5, .int 20), (4, .ref (S0 + 1)), (3, .int x2), (2, .ref o6), (0, .ref S0), (1, .ref c1)]) hx hb dX5_nearestListedFree_79 hl (k := 1) rfl rfl (by decide) rfl (fun ls hl => ?_)
              refine lv_goto (tgt := 18) hx hb dX5_nearestListedFree_82 (by decide) ?_
              exact ih18 (x1 + 1) x2 (some o6) k25 _ _ _ h hc1 (fun _ h9 => by cases h9; exact hc_8) hW (lv_sub hl [0, 2, 3, 4, 5, 6, 7] rfl)
  obtain ⟨f30, h⟩ := h
  exact lp18 f30 0 0 none k0 _ _ _ h hc1 (fun _ h9 => nomatch h9) hW (lv_sub hl [0, 1, 2, 3, 4, 5, 6] rfl)

def wX5_askNextHome (S0 : Nat) (k0 : kS) (c1 : Nat) (Q : kS → Prop) : Prop := (wX5_nearestListedFree S0 k0 c1 (fun r1 k2 => ((r1 = none → (∀ k7 : kS, k7 = kptr k2 22 c1 none → (∀ k8 : kS, k8 = kset k7 23 c1 5 → Q k8))) ∧ (∀ o4 : Nat, r1 = some o4 → (∀ k9 : kS, k9 = kptr k2 22 c1 (some o4) → (wX3_markAsked S0 k9 c1 (k9.1 11 o4) (fun k11 => (wX5_way S0 k11 (k11.1 20 c1) (k11.1 11 o4) (fun r12 k13 => (wX5_send S0 k13 2 r12 o4 (some c1) (fun r14 k15 => Q k15)))))))))))
theorem hin_X5_askNextHome_1 : ∀ w ∈ u_ws RX1 TX1 8, w ∈ wsX5_askNextHome := by decide +kernel
theorem hin_X5_askNextHome_3 : ∀ w ∈ u_ws RX3 TX3 7, w ∈ wsX5_askNextHome := by decide +kernel
set_option maxHeartbeats 8000000 in
set_option maxRecDepth 100000 in
theorem cX5_askNextHome_ok (l : Launch) (hlt : l.stackTraces = false) (D : zD) (S0 : Nat) (g : zF) (k0 : kS) (c1 : Nat) (hc1 : k0.2.2 c1 = 3) (Q : kS → Prop) (h : wX5_askNextHome S0 k0 c1 Q) : Met l yX5_askNextHome wsX5_askNextHome { frames := 3, cells := 1, slots := 8 * (1), locals := 71 } (zPc D S0 (xR D S0 g k0 k0) [.ref S0, .ref c1]) (va_Qv Q (zB D S0 (fun u => xR D S0 g k0 u)) (zA S0)) (1) (8 * (1)) (zA S0) := by
  refine zMet (cc := cX5_askNextHome) (maxL := 3) (ret := none) (by decide) rfl (Nat.le_of_ble_eq_true rfl) (fun p e s m args below meth c ls hx hb hr hml hown hts hlocks hnm hs hE hW hl => ?_)
  have hsz := xW_sz hW
  have hs0 : S0 ≤ s.heap.size := hs
  have hin1 := hin_X5_askNextHome_1
  have hin3 := hin_X5_askNextHome_3
  replace hl : lv_has ls 3 [(0, .ref S0), (1, .ref c1)] := hl
  unfold wX5_askNextHome at h
  refine lv_aload_n hx hb dX5_askNextHome_0 rfl (lv_at hl 0 rfl) ?_
  refine lv_aload_n hx hb dX5_askNextHome_1 rfl (lv_at hl 1 rfl) ?_
  have hle := xW_kle hW
  refine zc_q (va_runV (As := [.ref c1]) (rest := []) ⟨hx, hb, hml, hown, hts⟩ (cX5_nearestListedFree_ok l hlt D S0 g k0 c1 hc1 _ h) (cwV 1 hts gX5_askNextHome_X5_nearestListedFree rfl rfl rfl (by decide +kernel) ⟨Nat.le_of_ble_eq_true rfl, Nat.le_of_ble_eq_true rfl⟩) (zpreV (q := (RX5, TX5, 7)) hE hs (xW_start hW) xC_U rfl) rfl rfl hl.1 rfl (lv_room (Nat.le_of_ble_eq_true rfl)) dX5_askNextHome_2 ⟨by show _ ≤ 1; omega, by show _ ≤ 8 * (1); omega⟩) hW (fun r1 k2 H locs h hW => ?_)
  replace hc1 := kle_3 (xW_kle hW) hc1
  replace hW := hW.mono (xR_tr hle)
  refine W.widen (k := 0) (n := 8 * (0)) (by omega) (by omega) ?_
  obtain ⟨h, hk_3⟩ := h
  rcases eo_5 : r1 with _ | o4
  · replace h := h.1 eo_5
    refine lv_astore_nN (lv' := [(2, .null), (0, .ref S0), (1, .ref c1)]) hx hb dX5_askNextHome_5 rfl hl (by decide) rfl (fun ls hl => ?_)
    refine lv_aload_n hx hb dX5_askNextHome_6 rfl (lv_at hl 2 rfl) ?_
    refine lv_aload_nN hx hb dX5_askNextHome_7 rfl (lv_at hl 0 rfl) ?_
    refine zw_put (C := RX3) (T := TX3) (N := 7) hx hb hts hin3 tyX3 tyX3_ok nmX3 hown hE.1 hW (xC_R hc1) rfl 2 (by decide) (hts (.fieldLink RX5 134 "UnionList$Request" "copy" "LUnionList$Copy;") (by decide +kernel)) (fun _ h9 => h9) rfl rfl rfl (Nat.le_of_ble_eq_true rfl) dX5_askNextHome_8 (xP_R2 (v := none) hc1 (fun _ h9 => nomatch h9)) (fun H locs hW => ?_)
    obtain ⟨k7, ek7⟩ : ∃ y, y = kptr k2 22 c1 none := ⟨_, rfl⟩
    rw [← ek7] at hW
    replace h := h k7 ek7
    replace hc1 : k7.2.2 c1 = 3 := by rw [ek7]; exact hc1
    refine lv_aload_nN hx hb dX5_askNextHome_11 rfl (lv_at hl 0 rfl) ?_
    refine lv_ifnonnullN hx hb dX5_askNextHome_12 ?_
    refine lv_aload_n hx hb dX5_askNextHome_15 rfl (lv_at hl 2 rfl) ?_
    refine lv_iconst (v := 5) hx hb dX5_askNextHome_16 (by decide) ?_
    refine zw_put (C := RX3) (T := TX3) (N := 7) hx hb hts hin3 tyX3 tyX3_ok nmX3 hown hE.1 hW (xC_R hc1) rfl 3 (by decide) (hts (.fieldLink RX5 131 "UnionList$Request" "state" "I") (by decide +kernel)) (fun _ h9 => h9) rfl rfl rfl (Nat.le_of_ble_eq_true rfl) dX5_askNextHome_17 (xP_R3 hc1) (fun H locs hW => ?_)
    obtain ⟨k8, ek8⟩ : ∃ y, y = kset k7 23 c1 5 := ⟨_, rfl⟩
    rw [← ek8] at hW
    replace h := h k8 ek8
    replace hc1 : k8.2.2 c1 = 3 := by rw [ek8]; exact hc1
    refine W.widen (k := 1) (n := 8 * (1)) (by omega) (by omega) ?_
    exact (z_vret hx hb hr hlocks hW h dX5_askNextHome_20)
  · replace h := h.2 o4 eo_5
    have hc_6 : k2.2.2 o4 = 1 := hk_3 o4 eo_5
    refine lv_astore_n (lv' := [(2, .ref o4), (0, .ref S0), (1, .ref c1)]) hx hb dX5_askNextHome_5 rfl hl (by decide) rfl (fun ls hl => ?_)
    refine lv_aload_n hx hb dX5_askNextHome_6 rfl (lv_at hl 2 rfl) ?_
    refine lv_aload_n hx hb dX5_askNextHome_7 rfl (lv_at hl 0 rfl) ?_
    refine zw_put (C := RX3) (T := TX3) (N := 7) hx hb hts hin3 tyX3 tyX3_ok nmX3 hown hE.1 hW (xC_R hc1) rfl 2 (by decide) (hts (.fieldLink RX5 134 "UnionList$Request" "copy" "LUnionList$Copy;") (by decide +kernel)) (fun _ h9 => h9) rfl rfl rfl (Nat.le_of_ble_eq_true rfl) dX5_askNextHome_8 (xP_R2 (v := some o4) hc1 (fun _ h9 => by cases h9; exact hc_6)) (fun H locs hW => ?_)
    obtain ⟨k9, ek9⟩ : ∃ y, y = kptr k2 22 c1 (some o4) := ⟨_, rfl⟩
    rw [← ek9] at hW
    replace h := h k9 ek9
    replace hc1 : k9.2.2 c1 = 3 := by rw [ek9]; exact hc1
    replace hc_6 : k9.2.2 o4 = 1 := by rw [ek9]; exact hc_6
    refine lv_aload_n hx hb dX5_askNextHome_11 rfl (lv_at hl 0 rfl) ?_
    refine lv_ifnonnull (tgt := 21) hx hb dX5_askNextHome_12 (by decide) ?_
    refine lv_aload_n hx hb dX5_askNextHome_21 rfl (lv_at hl 2 rfl) ?_
    refine lv_aload_n hx hb dX5_askNextHome_22 rfl (lv_at hl 0 rfl) ?_
    refine zw_get (C := RX1) (T := TX1) (N := 8) hx hb hts hin1 hown hE.1 hW (xC_C hc_6) rfl 1 (by decide) (hts (.fieldLink RX5 149 "UnionList$Copy" "home" "I") (by decide +kernel)) (fun _ h9 => h9) rfl dX5_askNextHome_23 ?_
    have hle := xW_kle hW
    refine zc_v (va_runV (As := [.int (k9.1 11 o4)]) (rest := []) ⟨hx, hb, hml, hown, hts⟩ (cX3_markAsked_ok l hlt D S0 g k9 c1 (k9.1 11 o4) hc1 _ h) (cwV 1 hts gX5_askNextHome_X3_markAsked rfl rfl rfl (by decide +kernel) ⟨Nat.le_of_ble_eq_true rfl, Nat.le_of_ble_eq_true rfl⟩) (zpreV (q := (RX3, TX3, 7)) hE hs (xW_start hW) (xC_R hc1) rfl) rfl rfl hl.1 rfl (lv_room (Nat.le_of_ble_eq_true rfl)) dX5_askNextHome_26 ⟨by show _ ≤ 1; omega, by show _ ≤ 8 * (1); omega⟩) hW (fun k11 H locs h hW => ?_)
    replace hc1 := kle_3 (xW_kle hW) hc1
    replace hc_6 := kle_1 (xW_kle hW) hc_6
    replace hW := hW.mono (xR_tr hle)
    refine W.widen (k := 0) (n := 8 * (0)) (by omega) (by omega) ?_
    refine lv_aload_n hx hb dX5_askNextHome_29 rfl (lv_at hl 1 rfl) ?_
    refine lv_iconst (v := 2) hx hb dX5_askNextHome_30 (by decide) ?_
    refine lv_aload_n hx hb dX5_askNextHome_31 rfl (lv_at hl 2 rfl) ?_
    refine zw_get (C := RX3) (T := TX3) (N := 7) hx hb hts hin3 hown hE.1 hW (xC_R hc1) rfl 0 (by decide) (hts (.fieldLink RX5 146 "UnionList$Request" "house" "I") (by decide +kernel)) (fun _ h9 => h9) rfl dX5_askNextHome_32 ?_
    refine lv_aload_n hx hb dX5_askNextHome_35 rfl (lv_at hl 0 rfl) ?_
    refine zw_get (C := RX1) (T := TX1) (N := 8) hx hb hts hin1 hown hE.1 hW (xC_C hc_6) rfl 1 (by decide) (hts (.fieldLink RX5 149 "UnionList$Copy" "home" "I") (by decide +kernel)) (fun _ h9 => h9) rfl dX5_askNextHome_36 ?_
    have hle := xW_kle hW
    refine zc_i (va_runS (As := [.int (k11.1 20 c1), .int (k11.1 11 o4)]) (rest := [.int 2, .ref S0]) ⟨hx, hb, hml, hown, hts⟩ (cX5_way_ok l hlt D S0 g k11 (k11.1 20 c1) (k11.1 11 o4) _ h) (va_cwS 2 hts gX5_askNextHome_X5_way rfl rfl rfl (by decide +kernel) ⟨Nat.le_of_ble_eq_true rfl, Nat.le_of_ble_eq_true rfl⟩) (zpreS hE hs (xW_start hW)) rfl rfl hl.1 rfl (lv_room (Nat.le_of_ble_eq_true rfl)) dX5_askNextHome_39 ⟨by show _ ≤ 1; omega, by show _ ≤ 8 * (1); omega⟩) hW (fun r12 k13 H locs h hW => ?_)
    replace hc1 := kle_3 (xW_kle hW) hc1
    replace hc_6 := kle_1 (xW_kle hW) hc_6
    replace hW := hW.mono (xR_tr hle)
    refine W.widen (k := 0) (n := 8 * (0)) (by omega) (by omega) ?_
    refine lv_aload_n hx hb dX5_askNextHome_42 rfl (lv_at hl 0 rfl) ?_
    refine lv_aload_n hx hb dX5_askNextHome_43 rfl (lv_at hl 2 rfl) ?_
    have hle := xW_kle hW
    refine zc_i (va_runV (As := [.int 2, .int r12, .ref o4, .ref c1]) (rest := []) ⟨hx, hb, hml, hown, hts⟩ (cX5_send_ok l hlt D S0 g k13 2 r12 o4 (some c1) hc_6 (fun _ h9 => by cases h9; exact hc1) _ h) (cwV 4 hts gX5_askNextHome_X5_send rfl rfl rfl (by decide +kernel) ⟨Nat.le_of_ble_eq_true rfl, Nat.le_of_ble_eq_true rfl⟩) (zpreV (q := (RX5, TX5, 7)) hE hs (xW_start hW) xC_U rfl) rfl rfl hl.1 rfl (lv_room (Nat.le_of_ble_eq_true rfl)) dX5_askNextHome_44 ⟨by show _ ≤ 1; omega, by show _ ≤ 8 * (1); omega⟩) hW (fun r14 k15 H locs h hW => ?_)
    replace hc1 := kle_3 (xW_kle hW) hc1
    replace hc_6 := kle_1 (xW_kle hW) hc_6
    replace hW := hW.mono (xR_tr hle)
    refine W.widen (k := 0 + 1) (n := 8 * (0 + 1)) (by omega) (by omega) ?_
    refine lv_pop hx hb dX5_askNextHome_47 rfl ?_
    refine W.widen (k := 1) (n := 8 * (1)) (by omega) (by omega) ?_
    exact (z_vret hx hb hr hlocks hW h dX5_askNextHome_48)

def wX5_examine (S0 : Nat) (k0 : kS) (c1 : Nat) (Q : Int32 → kS → Prop) : Prop := (wX1_isHarmed S0 k0 c1 (fun r1 k2 => ((r1 = 0 → Q (-1) k2) ∧ (¬ r1 = 0 → (((k2.1 17 c1) = 0 → (∀ k5 : kS, k5 = kset k2 17 c1 1 → (((k5.1 16 c1) = (k5.1 11 c1) → Q (k5.1 16 c1) k5) ∧ (¬ (k5.1 16 c1) = (k5.1 11 c1) → (wX0_charge S0 k5 (k5.1 16 c1) (k5.1 11 c1) 30 (fun k8 => Q (k8.1 16 c1) k8)))))) ∧ (¬ (k2.1 17 c1) = 0 → Q (-1) k2))))))
theorem hin_X5_examine_1 : ∀ w ∈ u_ws RX1 TX1 8, w ∈ wsX5_examine := by decide +kernel
theorem hin_X5_examine_5 : ∀ w ∈ u_ws RX5 TX5 7, w ∈ wsX5_examine := by decide +kernel
set_option maxHeartbeats 8000000 in
set_option maxRecDepth 100000 in
theorem cX5_examine_ok (l : Launch) (hlt : l.stackTraces = false) (D : zD) (S0 : Nat) (g : zF) (k0 : kS) (c1 : Nat) (hc1 : k0.2.2 c1 = 1) (Q : Int32 → kS → Prop) (h : wX5_examine S0 k0 c1 Q) : Met l yX5_examine wsX5_examine { frames := 2, cells := 0, slots := 8 * (0), locals := 43 } (zPc D S0 (xR D S0 g k0 k0) [.ref S0, .ref c1]) (va_Qi Q (zB D S0 (fun u => xR D S0 g k0 u)) (zA S0)) (0) (8 * (0)) (zA S0) := by
  refine zMet (cc := cX5_examine) (maxL := 2) (ret := (some .int)) (by decide) rfl (Nat.le_of_ble_eq_true rfl) (fun p e s m args below meth c ls hx hb hr hml hown hts hlocks hnm hs hE hW hl => ?_)
  have hsz := xW_sz hW
  have hs0 : S0 ≤ s.heap.size := hs
  have hin1 := hin_X5_examine_1
  have hin5 := hin_X5_examine_5
  replace hl : lv_has ls 2 [(0, .ref S0), (1, .ref c1)] := hl
  unfold wX5_examine at h
  refine lv_aload_n hx hb dX5_examine_0 rfl (lv_at hl 1 rfl) ?_
  have hle := xW_kle hW
  refine zc_i (va_runV (As := []) (rest := []) ⟨hx, hb, hml, hown, hts⟩ (cX1_isHarmed_ok l hlt D S0 g k0 c1 hc1 _ h) (cwV 0 hts gX5_examine_X1_isHarmed rfl rfl rfl (by decide +kernel) ⟨Nat.le_of_ble_eq_true rfl, Nat.le_of_ble_eq_true rfl⟩) (zpreV (q := (RX1, TX1, 8)) hE hs (xW_start hW) (xC_C hc1) rfl) rfl rfl hl.1 rfl (lv_room (Nat.le_of_ble_eq_true rfl)) dX5_examine_1 ⟨by show _ ≤ 0; omega, by show _ ≤ 8 * (0); omega⟩) hW (fun r1 k2 H locs h hW => ?_)
  obtain ⟨h, hz_r1⟩ := h
  replace hc1 := kle_1 (xW_kle hW) hc1
  replace hW := hW.mono (xR_tr hle)
  refine W.widen (k := 0) (n := 8 * (0)) (by omega) (by omega) ?_
  refine lv_if_eq (tgt := 14) hx hb dX5_examine_4 (by decide) (fun c_3 => ?_) (fun c_3 => ?_)
  · replace h := h.1 c_3
    refine lv_iconst (v := (-1)) hx hb dX5_examine_14 (by decide) ?_
    refine W.widen (k := 0) (n := 8 * (0)) (by omega) (by omega) ?_
    exact (z_iret hx hb hr hlocks hW h dX5_examine_15)
  · replace h := h.2 c_3
    refine lv_aload_n hx hb dX5_examine_7 rfl (lv_at hl 1 rfl) ?_
    refine zw_get (C := RX1) (T := TX1) (N := 8) hx hb hts hin1 hown hE.1 hW (xC_C hc1) rfl 7 (by decide) (hts (.fieldLink RX5 111 "UnionList$Copy" "harmKnown" "Z") (by decide +kernel)) (fun _ h9 => h9) rfl dX5_examine_8 ?_
    refine lv_if_eq (tgt := 16) hx hb dX5_examine_11 (by decide) (fun c_4 => ?_) (fun c_4 => ?_)
    · replace h := h.1 c_4
      refine lv_aload_n hx hb dX5_examine_16 rfl (lv_at hl 1 rfl) ?_
      refine lv_iconst (v := 1) hx hb dX5_examine_17 (by decide) ?_
      refine zw_put (C := RX1) (T := TX1) (N := 8) hx hb hts hin1 tyX1 tyX1_ok nmX1 hown hE.1 hW (xC_C hc1) rfl 7 (by decide) (hts (.fieldLink RX5 111 "UnionList$Copy" "harmKnown" "Z") (by decide +kernel)) (fun _ h9 => h9) rfl rfl rfl (Nat.le_of_ble_eq_true rfl) dX5_examine_18 (xP_C7 hc1) (fun H locs hW => ?_)
      obtain ⟨k5, ek5⟩ : ∃ y, y = kset k2 17 c1 1 := ⟨_, rfl⟩
      rw [← ek5] at hW
      replace h := h k5 ek5
      replace hc1 : k5.2.2 c1 = 1 := by rw [ek5]; exact hc1
      refine lv_aload_n hx hb dX5_examine_21 rfl (lv_at hl 1 rfl) ?_
      refine zw_get (C := RX1) (T := TX1) (N := 8) hx hb hts hin1 hown hE.1 hW (xC_C hc1) rfl 6 (by decide) (hts (.fieldLink RX5 95 "UnionList$Copy" "harmedBy" "I") (by decide +kernel)) (fun _ h9 => h9) rfl dX5_examine_22 ?_
      refine lv_aload_n hx hb dX5_examine_25 rfl (lv_at hl 1 rfl) ?_
      refine zw_get (C := RX1) (T := TX1) (N := 8) hx hb hts hin1 hown hE.1 hW (xC_C hc1) rfl 1 (by decide) (hts (.fieldLink RX5 149 "UnionList$Copy" "home" "I") (by decide +kernel)) (fun _ h9 => h9) rfl dX5_examine_26 ?_
      refine lv_icmp_eq (tgt := 49) hx hb dX5_examine_29 (by decide) (fun c_6 => ?_) (fun c_6 => ?_)
      · replace h := h.1 c_6
        refine lv_aload_n hx hb dX5_examine_49 rfl (lv_at hl 1 rfl) ?_
        refine zw_get (C := RX1) (T := TX1) (N := 8) hx hb hts hin1 hown hE.1 hW (xC_C hc1) rfl 6 (by decide) (hts (.fieldLink RX5 95 "UnionList$Copy" "harmedBy" "I") (by decide +kernel)) (fun _ h9 => h9) rfl dX5_examine_50 ?_
        refine W.widen (k := 0) (n := 8 * (0)) (by omega) (by omega) ?_
        exact (z_iret hx hb hr hlocks hW h dX5_examine_53)
      · replace h := h.2 c_6
        refine lv_aload_n hx hb dX5_examine_32 rfl (lv_at hl 0 rfl) ?_
        refine zw_get (C := RX5) (T := TX5) (N := 7) hx hb hts hin5 hown hE.1 hW xC_U rfl 3 (by decide) (hts (.fieldLink RX5 33 "UnionList" "accounts" "LUnionList$Accounts;") (by decide +kernel)) (fun _ h9 => h9) rfl dX5_examine_33 ?_
        refine lv_aload_n hx hb dX5_examine_36 rfl (lv_at hl 1 rfl) ?_
        refine zw_get (C := RX1) (T := TX1) (N := 8) hx hb hts hin1 hown hE.1 hW (xC_C hc1) rfl 6 (by decide) (hts (.fieldLink RX5 95 "UnionList$Copy" "harmedBy" "I") (by decide +kernel)) (fun _ h9 => h9) rfl dX5_examine_37 ?_
        refine lv_aload_n hx hb dX5_examine_40 rfl (lv_at hl 1 rfl) ?_
        refine zw_get (C := RX1) (T := TX1) (N := 8) hx hb hts hin1 hown hE.1 hW (xC_C hc1) rfl 1 (by decide) (hts (.fieldLink RX5 149 "UnionList$Copy" "home" "I") (by decide +kernel)) (fun _ h9 => h9) rfl dX5_examine_41 ?_
        refine lv_bipush (v := 30) hx hb dX5_examine_44 (by decide) ?_
        have hle := xW_kle hW
        refine zc_v (va_runV (As := [.int (k5.1 16 c1), .int (k5.1 11 c1), .int 30]) (rest := []) ⟨hx, hb, hml, hown, hts⟩ (cX0_charge_ok l hlt D S0 g k5 (k5.1 16 c1) (k5.1 11 c1) 30 _ h) (cwV 3 hts gX5_examine_X0_charge rfl rfl rfl (by decide +kernel) ⟨Nat.le_of_ble_eq_true rfl, Nat.le_of_ble_eq_true rfl⟩) (zpreV (q := (RX0, TX0, 3)) hE hs (xW_start hW) xC_A rfl) rfl rfl hl.1 rfl (lv_room (Nat.le_of_ble_eq_true rfl)) dX5_examine_46 ⟨by show _ ≤ 0; omega, by show _ ≤ 8 * (0); omega⟩) hW (fun k8 H locs h hW => ?_)
        replace hc1 := kle_1 (xW_kle hW) hc1
        replace hW := hW.mono (xR_tr hle)
        refine W.widen (k := 0) (n := 8 * (0)) (by omega) (by omega) ?_
        refine lv_aload_n hx hb dX5_examine_49 rfl (lv_at hl 1 rfl) ?_
        refine zw_get (C := RX1) (T := TX1) (N := 8) hx hb hts hin1 hown hE.1 hW (xC_C hc1) rfl 6 (by decide) (hts (.fieldLink RX5 95 "UnionList$Copy" "harmedBy" "I") (by decide +kernel)) (fun _ h9 => h9) rfl dX5_examine_50 ?_
        refine W.widen (k := 0) (n := 8 * (0)) (by omega) (by omega) ?_
        exact (z_iret hx hb hr hlocks hW h dX5_examine_53)
    · replace h := h.2 c_4
      refine lv_iconst (v := (-1)) hx hb dX5_examine_14 (by decide) ?_
      refine W.widen (k := 0) (n := 8 * (0)) (by omega) (by omega) ?_
      exact (z_iret hx hb hr hlocks hW h dX5_examine_15)

def wX5_answerQuestion (S0 : Nat) (k0 : kS) (c1 : Nat) (c2 : Nat) (Q : kS → Prop) : Prop := (wX1_canBeSent S0 k0 c1 (fun r1 k2 => ((r1 = 0 → (wX5_askNextHome S0 k2 c2 (fun k13 => Q k13))) ∧ (¬ r1 = 0 → (∀ k4 : kS, k4 = kset k2 23 c2 1 → (∀ k5 : kS, k5 = kset k4 14 c1 1 → (wX5_way S0 k5 (k5.1 20 c2) (k5.1 11 c1) (fun r6 k7 => (wX5_send S0 k7 3 r6 c1 (some c2) (fun r8 k9 => (wX5_sendNews S0 k9 1 c1 (fun k11 => Q k11))))))))))))
theorem hin_X5_answerQuestion_1 : ∀ w ∈ u_ws RX1 TX1 8, w ∈ wsX5_answerQuestion := by decide +kernel
theorem hin_X5_answerQuestion_3 : ∀ w ∈ u_ws RX3 TX3 7, w ∈ wsX5_answerQuestion := by decide +kernel
set_option maxHeartbeats 8000000 in
set_option maxRecDepth 100000 in
theorem cX5_answerQuestion_ok (l : Launch) (hlt : l.stackTraces = false) (D : zD) (S0 : Nat) (g : zF) (k0 : kS) (c1 : Nat) (c2 : Nat) (hc1 : k0.2.2 c1 = 1) (hc2 : k0.2.2 c2 = 3) (Q : kS → Prop) (h : wX5_answerQuestion S0 k0 c1 c2 Q) : Met l yX5_answerQuestion wsX5_answerQuestion { frames := 4, cells := 2, slots := 8 * (2), locals := 93 } (zPc D S0 (xR D S0 g k0 k0) [.ref S0, .ref c1, .ref c2]) (va_Qv Q (zB D S0 (fun u => xR D S0 g k0 u)) (zA S0)) (2) (8 * (2)) (zA S0) := by
  refine zMet (cc := cX5_answerQuestion) (maxL := 3) (ret := none) (by decide) rfl (Nat.le_of_ble_eq_true rfl) (fun p e s m args below meth c ls hx hb hr hml hown hts hlocks hnm hs hE hW hl => ?_)
  have hsz := xW_sz hW
  have hs0 : S0 ≤ s.heap.size := hs
  have hin1 := hin_X5_answerQuestion_1
  have hin3 := hin_X5_answerQuestion_3
  replace hl : lv_has ls 3 [(0, .ref S0), (1, .ref c1), (2, .ref c2)] := hl
  unfold wX5_answerQuestion at h
  refine lv_aload_n hx hb dX5_answerQuestion_0 rfl (lv_at hl 1 rfl) ?_
  have hle := xW_kle hW
  refine zc_i (va_runV (As := []) (rest := []) ⟨hx, hb, hml, hown, hts⟩ (cX1_canBeSent_ok l hlt D S0 g k0 c1 hc1 _ h) (cwV 0 hts gX5_answerQuestion_X1_canBeSent rfl rfl rfl (by decide +kernel) ⟨Nat.le_of_ble_eq_true rfl, Nat.le_of_ble_eq_true rfl⟩) (zpreV (q := (RX1, TX1, 8)) hE hs (xW_start hW) (xC_C hc1) rfl) rfl rfl hl.1 rfl (lv_room (Nat.le_of_ble_eq_true rfl)) dX5_answerQuestion_1 ⟨by show _ ≤ 2; omega, by show _ ≤ 8 * (2); omega⟩) hW (fun r1 k2 H locs h hW => ?_)
  obtain ⟨h, hz_r1⟩ := h
  replace hc1 := kle_1 (xW_kle hW) hc1
  replace hc2 := kle_3 (xW_kle hW) hc2
  replace hW := hW.mono (xR_tr hle)
  refine W.widen (k := 0) (n := 8 * (0)) (by omega) (by omega) ?_
  refine lv_if_ne (tgt := 13) hx hb dX5_answerQuestion_4 (by decide) (fun c_3 => ?_) (fun c_3 => ?_)
  · replace h := h.2 c_3
    refine lv_aload_n hx hb dX5_answerQuestion_13 rfl (lv_at hl 2 rfl) ?_
    refine lv_iconst (v := 1) hx hb dX5_answerQuestion_14 (by decide) ?_
    refine zw_put (C := RX3) (T := TX3) (N := 7) hx hb hts hin3 tyX3 tyX3_ok nmX3 hown hE.1 hW (xC_R hc2) rfl 3 (by decide) (hts (.fieldLink RX5 131 "UnionList$Request" "state" "I") (by decide +kernel)) (fun _ h9 => h9) rfl rfl rfl (Nat.le_of_ble_eq_true rfl) dX5_answerQuestion_15 (xP_R3 hc2) (fun H locs hW => ?_)
    obtain ⟨k4, ek4⟩ : ∃ y, y = kset k2 23 c2 1 := ⟨_, rfl⟩
    rw [← ek4] at hW
    replace h := h k4 ek4
    replace hc1 : k4.2.2 c1 = 1 := by rw [ek4]; exact hc1
    replace hc2 : k4.2.2 c2 = 3 := by rw [ek4]; exact hc2
    refine lv_aload_n hx hb dX5_answerQuestion_18 rfl (lv_at hl 1 rfl) ?_
    refine lv_iconst (v := 1) hx hb dX5_answerQuestion_19 (by decide) ?_
    refine zw_put (C := RX1) (T := TX1) (N := 8) hx hb hts hin1 tyX1 tyX1_ok nmX1 hown hE.1 hW (xC_C hc1) rfl 4 (by decide) (hts (.fieldLink RX5 98 "UnionList$Copy" "onItsWay" "Z") (by decide +kernel)) (fun _ h9 => h9) rfl rfl rfl (Nat.le_of_ble_eq_true rfl) dX5_answerQuestion_20 (xP_C4 hc1) (fun H locs hW => ?_)
    obtain ⟨k5, ek5⟩ : ∃ y, y = kset k4 14 c1 1 := ⟨_, rfl⟩
    rw [← ek5] at hW
    replace h := h k5 ek5
    replace hc1 : k5.2.2 c1 = 1 := by rw [ek5]; exact hc1
    replace hc2 : k5.2.2 c2 = 3 := by rw [ek5]; exact hc2
    refine lv_aload_n hx hb dX5_answerQuestion_23 rfl (lv_at hl 0 rfl) ?_
    refine lv_iconst (v := 3) hx hb dX5_answerQuestion_24 (by decide) ?_
    refine lv_aload_n hx hb dX5_answerQuestion_25 rfl (lv_at hl 2 rfl) ?_
    refine zw_get (C := RX3) (T := TX3) (N := 7) hx hb hts hin3 hown hE.1 hW (xC_R hc2) rfl 0 (by decide) (hts (.fieldLink RX5 146 "UnionList$Request" "house" "I") (by decide +kernel)) (fun _ h9 => h9) rfl dX5_answerQuestion_26 ?_
    refine lv_aload_n hx hb dX5_answerQuestion_29 rfl (lv_at hl 1 rfl) ?_
    refine zw_get (C := RX1) (T := TX1) (N := 8) hx hb hts hin1 hown hE.1 hW (xC_C hc1) rfl 1 (by decide) (hts (.fieldLink RX5 149 "UnionList$Copy" "home" "I") (by decide +kernel)) (fun _ h9 => h9) rfl dX5_answerQuestion_30 ?_
    have hle := xW_kle hW
    refine zc_i (va_runS (As := [.int (k5.1 20 c2), .int (k5.1 11 c1)]) (rest := [.int 3, .ref S0]) ⟨hx, hb, hml, hown, hts⟩ (cX5_way_ok l hlt D S0 g k5 (k5.1 20 c2) (k5.1 11 c1) _ h) (va_cwS 2 hts gX5_answerQuestion_X5_way rfl rfl rfl (by decide +kernel) ⟨Nat.le_of_ble_eq_true rfl, Nat.le_of_ble_eq_true rfl⟩) (zpreS hE hs (xW_start hW)) rfl rfl hl.1 rfl (lv_room (Nat.le_of_ble_eq_true rfl)) dX5_answerQuestion_33 ⟨by show _ ≤ 2; omega, by show _ ≤ 8 * (2); omega⟩) hW (fun r6 k7 H locs h hW => ?_)
    replace hc1 := kle_1 (xW_kle hW) hc1
    replace hc2 := kle_3 (xW_kle hW) hc2
    replace hW := hW.mono (xR_tr hle)
    refine W.widen (k := 0) (n := 8 * (0)) (by omega) (by omega) ?_
    refine lv_aload_n hx hb dX5_answerQuestion_36 rfl (lv_at hl 1 rfl) ?_
    refine lv_aload_n hx hb dX5_answerQuestion_37 rfl (lv_at hl 2 rfl) ?_
    have hle := xW_kle hW
    refine zc_i (va_runV (As := [.int 3, .int r6, .ref c1, .ref c2]) (rest := []) ⟨hx, hb, hml, hown, hts⟩ (cX5_send_ok l hlt D S0 g k7 3 r6 c1 (some c2) hc1 (fun _ h9 => by cases h9; exact hc2) _ h) (cwV 4 hts gX5_answerQuestion_X5_send rfl rfl rfl (by decide +kernel) ⟨Nat.le_of_ble_eq_true rfl, Nat.le_of_ble_eq_true rfl⟩) (zpreV (q := (RX5, TX5, 7)) hE hs (xW_start hW) xC_U rfl) rfl rfl hl.1 rfl (lv_room (Nat.le_of_ble_eq_true rfl)) dX5_answerQuestion_38 ⟨by show _ ≤ 2; omega, by show _ ≤ 8 * (2); omega⟩) hW (fun r8 k9 H locs h hW => ?_)
    replace hc1 := kle_1 (xW_kle hW) hc1
    replace hc2 := kle_3 (xW_kle hW) hc2
    replace hW := hW.mono (xR_tr hle)
    refine W.widen (k := 0 + 1) (n := 8 * (0 + 1)) (by omega) (by omega) ?_
    refine lv_pop hx hb dX5_answerQuestion_41 rfl ?_
    refine lv_aload_n hx hb dX5_answerQuestion_42 rfl (lv_at hl 0 rfl) ?_
    refine lv_iconst (v := 1) hx hb dX5_answerQuestion_43 (by decide) ?_
    refine lv_aload_n hx hb dX5_answerQuestion_44 rfl (lv_at hl 1 rfl) ?_
    have hle := xW_kle hW
    refine zc_v (va_runV (As := [.int 1, .ref c1]) (rest := []) ⟨hx, hb, hml, hown, hts⟩ (cX5_sendNews_ok l hlt D S0 g k9 1 c1 hc1 _ h) (cwV 2 hts gX5_answerQuestion_X5_sendNews rfl rfl rfl (by decide +kernel) ⟨Nat.le_of_ble_eq_true rfl, Nat.le_of_ble_eq_true rfl⟩) (zpreV (q := (RX5, TX5, 7)) hE hs (xW_start hW) xC_U rfl) rfl rfl hl.1 rfl (lv_room (Nat.le_of_ble_eq_true rfl)) dX5_answerQuestion_45 ⟨by show _ ≤ 2; omega, by show _ ≤ 8 * (2); omega⟩) hW (fun k11 H locs h hW => ?_)
    replace hc1 := kle_1 (xW_kle hW) hc1
    replace hc2 := kle_3 (xW_kle hW) hc2
    replace hW := hW.mono (xR_tr hle)
    refine W.widen (k := 0 + 1 + 1) (n := 8 * (0 + 1 + 1)) (by omega) (by omega) ?_
    refine W.widen (k := 2) (n := 8 * (2)) (by omega) (by omega) ?_
    exact (z_vret hx hb hr hlocks hW h dX5_answerQuestion_48)
  · replace h := h.1 c_3
    refine lv_aload_n hx hb dX5_answerQuestion_7 rfl (lv_at hl 0 rfl) ?_
    refine lv_aload_n hx hb dX5_answerQuestion_8 rfl (lv_at hl 2 rfl) ?_
    have hle := xW_kle hW
    refine zc_v (va_runV (As := [.ref c2]) (rest := []) ⟨hx, hb, hml, hown, hts⟩ (cX5_askNextHome_ok l hlt D S0 g k2 c2 hc2 _ h) (cwV 1 hts gX5_answerQuestion_X5_askNextHome rfl rfl rfl (by decide +kernel) ⟨Nat.le_of_ble_eq_true rfl, Nat.le_of_ble_eq_true rfl⟩) (zpreV (q := (RX5, TX5, 7)) hE hs (xW_start hW) xC_U rfl) rfl rfl hl.1 rfl (lv_room (Nat.le_of_ble_eq_true rfl)) dX5_answerQuestion_9 ⟨by show _ ≤ 2; omega, by show _ ≤ 8 * (2); omega⟩) hW (fun k13 H locs h hW => ?_)
    replace hc1 := kle_1 (xW_kle hW) hc1
    replace hc2 := kle_3 (xW_kle hW) hc2
    replace hW := hW.mono (xR_tr hle)
    refine W.widen (k := 0 + 1) (n := 8 * (0 + 1)) (by omega) (by omega) ?_
    refine W.widen (k := 2) (n := 8 * (2)) (by omega) (by omega) ?_
    exact (z_vret hx hb hr hlocks hW h dX5_answerQuestion_12)

def wX5_beginLoan (S0 : Nat) (k0 : kS) (c1 : Nat) (c2 : Nat) (Q : kS → Prop) : Prop := (∀ k1 : kS, k1 = kset k0 13 c1 (k0.1 20 c2) → (∀ k2 : kS, k2 = kset k1 14 c1 0 → (∀ k3 : kS, k3 = kset k2 23 c2 2 → (∀ k4 : kS, k4 = kset k3 24 c2 ((k3.1 2 0) + 20) → (wX0_chargeLoan S0 k4 (k4.1 20 c2) (k4.1 11 c1) (fun k6 => Q k6))))))
theorem hin_X5_beginLoan_1 : ∀ w ∈ u_ws RX1 TX1 8, w ∈ wsX5_beginLoan := by decide +kernel
theorem hin_X5_beginLoan_3 : ∀ w ∈ u_ws RX3 TX3 7, w ∈ wsX5_beginLoan := by decide +kernel
theorem hin_X5_beginLoan_5 : ∀ w ∈ u_ws RX5 TX5 7, w ∈ wsX5_beginLoan := by decide +kernel
set_option maxHeartbeats 8000000 in
set_option maxRecDepth 100000 in
theorem cX5_beginLoan_ok (l : Launch) (hlt : l.stackTraces = false) (D : zD) (S0 : Nat) (g : zF) (k0 : kS) (c1 : Nat) (c2 : Nat) (hc1 : k0.2.2 c1 = 1) (hc2 : k0.2.2 c2 = 3) (Q : kS → Prop) (h : wX5_beginLoan S0 k0 c1 c2 Q) : Met l yX5_beginLoan wsX5_beginLoan { frames := 3, cells := 0, slots := 8 * (0), locals := 65 } (zPc D S0 (xR D S0 g k0 k0) [.ref S0, .ref c1, .ref c2]) (va_Qv Q (zB D S0 (fun u => xR D S0 g k0 u)) (zA S0)) (0) (8 * (0)) (zA S0) := by
  refine zMet (cc := cX5_beginLoan) (maxL := 3) (ret := none) (by decide) rfl (Nat.le_of_ble_eq_true rfl) (fun p e s m args below meth c ls hx hb hr hml hown hts hlocks hnm hs hE hW hl => ?_)
  have hsz := xW_sz hW
  have hs0 : S0 ≤ s.heap.size := hs
  have hin1 := hin_X5_beginLoan_1
  have hin3 := hin_X5_beginLoan_3
  have hin5 := hin_X5_beginLoan_5
  replace hl : lv_has ls 3 [(0, .ref S0), (1, .ref c1), (2, .ref c2)] := hl
  unfold wX5_beginLoan at h
  refine lv_aload_n hx hb dX5_beginLoan_0 rfl (lv_at hl 1 rfl) ?_
  refine lv_aload_n hx hb dX5_beginLoan_1 rfl (lv_at hl 2 rfl) ?_
  refine zw_get (C := RX3) (T := TX3) (N := 7) hx hb hts hin3 hown hE.1 hW (xC_R hc2) rfl 0 (by decide) (hts (.fieldLink RX5 146 "UnionList$Request" "house" "I") (by decide +kernel)) (fun _ h9 => h9) rfl dX5_beginLoan_2 ?_
  refine zw_put (C := RX1) (T := TX1) (N := 8) hx hb hts hin1 tyX1 tyX1_ok nmX1 hown hE.1 hW (xC_C hc1) rfl 3 (by decide) (hts (.fieldLink RX5 80 "UnionList$Copy" "holder" "I") (by decide +kernel)) (fun _ h9 => h9) rfl rfl rfl (Nat.le_of_ble_eq_true rfl) dX5_beginLoan_5 (xP_C3 hc1) (fun H locs hW => ?_)
  obtain ⟨k1, ek1⟩ : ∃ y, y = kset k0 13 c1 (k0.1 20 c2) := ⟨_, rfl⟩
  rw [← ek1] at hW
  replace h := h k1 ek1
  replace hc1 : k1.2.2 c1 = 1 := by rw [ek1]; exact hc1
  replace hc2 : k1.2.2 c2 = 3 := by rw [ek1]; exact hc2
  refine lv_aload_n hx hb dX5_beginLoan_8 rfl (lv_at hl 1 rfl) ?_
  refine lv_iconst (v := 0) hx hb dX5_beginLoan_9 (by decide) ?_
  refine zw_put (C := RX1) (T := TX1) (N := 8) hx hb hts hin1 tyX1 tyX1_ok nmX1 hown hE.1 hW (xC_C hc1) rfl 4 (by decide) (hts (.fieldLink RX5 98 "UnionList$Copy" "onItsWay" "Z") (by decide +kernel)) (fun _ h9 => h9) rfl rfl rfl (Nat.le_of_ble_eq_true rfl) dX5_beginLoan_10 (xP_C4 hc1) (fun H locs hW => ?_)
  obtain ⟨k2, ek2⟩ : ∃ y, y = kset k1 14 c1 0 := ⟨_, rfl⟩
  rw [← ek2] at hW
  replace h := h k2 ek2
  replace hc1 : k2.2.2 c1 = 1 := by rw [ek2]; exact hc1
  replace hc2 : k2.2.2 c2 = 3 := by rw [ek2]; exact hc2
  refine lv_aload_n hx hb dX5_beginLoan_13 rfl (lv_at hl 2 rfl) ?_
  refine lv_iconst (v := 2) hx hb dX5_beginLoan_14 (by decide) ?_
  refine zw_put (C := RX3) (T := TX3) (N := 7) hx hb hts hin3 tyX3 tyX3_ok nmX3 hown hE.1 hW (xC_R hc2) rfl 3 (by decide) (hts (.fieldLink RX5 131 "UnionList$Request" "state" "I") (by decide +kernel)) (fun _ h9 => h9) rfl rfl rfl (Nat.le_of_ble_eq_true rfl) dX5_beginLoan_15 (xP_R3 hc2) (fun H locs hW => ?_)
  obtain ⟨k3, ek3⟩ : ∃ y, y = kset k2 23 c2 2 := ⟨_, rfl⟩
  rw [← ek3] at hW
  replace h := h k3 ek3
  replace hc1 : k3.2.2 c1 = 1 := by rw [ek3]; exact hc1
  replace hc2 : k3.2.2 c2 = 3 := by rw [ek3]; exact hc2
  refine lv_aload_n hx hb dX5_beginLoan_18 rfl (lv_at hl 2 rfl) ?_
  refine lv_aload_n hx hb dX5_beginLoan_19 rfl (lv_at hl 0 rfl) ?_
  refine zw_get (C := RX5) (T := TX5) (N := 7) hx hb hts hin5 hown hE.1 hW xC_U rfl 6 (by decide) (hts (.fieldLink RX5 44 "UnionList" "day" "I") (by decide +kernel)) (fun _ h9 => h9) rfl dX5_beginLoan_20 ?_
  refine lv_bipush (v := 20) hx hb dX5_beginLoan_23 (by decide) ?_
  refine lv_iadd hx hb dX5_beginLoan_25 ?_
  refine zw_put (C := RX3) (T := TX3) (N := 7) hx hb hts hin3 tyX3 tyX3_ok nmX3 hown hE.1 hW (xC_R hc2) rfl 4 (by decide) (hts (.fieldLink RX5 143 "UnionList$Request" "dueDay" "I") (by decide +kernel)) (fun _ h9 => h9) rfl rfl rfl (Nat.le_of_ble_eq_true rfl) dX5_beginLoan_26 (xP_R4 hc2) (fun H locs hW => ?_)
  obtain ⟨k4, ek4⟩ : ∃ y, y = kset k3 24 c2 ((k3.1 2 0) + 20) := ⟨_, rfl⟩
  rw [← ek4] at hW
  replace h := h k4 ek4
  replace hc1 : k4.2.2 c1 = 1 := by rw [ek4]; exact hc1
  replace hc2 : k4.2.2 c2 = 3 := by rw [ek4]; exact hc2
  refine lv_aload_n hx hb dX5_beginLoan_29 rfl (lv_at hl 0 rfl) ?_
  refine zw_get (C := RX5) (T := TX5) (N := 7) hx hb hts hin5 hown hE.1 hW xC_U rfl 3 (by decide) (hts (.fieldLink RX5 33 "UnionList" "accounts" "LUnionList$Accounts;") (by decide +kernel)) (fun _ h9 => h9) rfl dX5_beginLoan_30 ?_
  refine lv_aload_n hx hb dX5_beginLoan_33 rfl (lv_at hl 2 rfl) ?_
  refine zw_get (C := RX3) (T := TX3) (N := 7) hx hb hts hin3 hown hE.1 hW (xC_R hc2) rfl 0 (by decide) (hts (.fieldLink RX5 146 "UnionList$Request" "house" "I") (by decide +kernel)) (fun _ h9 => h9) rfl dX5_beginLoan_34 ?_
  refine lv_aload_n hx hb dX5_beginLoan_37 rfl (lv_at hl 1 rfl) ?_
  refine zw_get (C := RX1) (T := TX1) (N := 8) hx hb hts hin1 hown hE.1 hW (xC_C hc1) rfl 1 (by decide) (hts (.fieldLink RX5 149 "UnionList$Copy" "home" "I") (by decide +kernel)) (fun _ h9 => h9) rfl dX5_beginLoan_38 ?_
  have hle := xW_kle hW
  refine zc_v (va_runV (As := [.int (k4.1 20 c2), .int (k4.1 11 c1)]) (rest := []) ⟨hx, hb, hml, hown, hts⟩ (cX0_chargeLoan_ok l hlt D S0 g k4 (k4.1 20 c2) (k4.1 11 c1) _ h) (cwV 2 hts gX5_beginLoan_X0_chargeLoan rfl rfl rfl (by decide +kernel) ⟨Nat.le_of_ble_eq_true rfl, Nat.le_of_ble_eq_true rfl⟩) (zpreV (q := (RX0, TX0, 3)) hE hs (xW_start hW) xC_A rfl) rfl rfl hl.1 rfl (lv_room (Nat.le_of_ble_eq_true rfl)) dX5_beginLoan_41 ⟨by show _ ≤ 0; omega, by show _ ≤ 8 * (0); omega⟩) hW (fun k6 H locs h hW => ?_)
  replace hc1 := kle_1 (xW_kle hW) hc1
  replace hc2 := kle_3 (xW_kle hW) hc2
  replace hW := hW.mono (xR_tr hle)
  refine W.widen (k := 0) (n := 8 * (0)) (by omega) (by omega) ?_
  refine W.widen (k := 0) (n := 8 * (0)) (by omega) (by omega) ?_
  exact (z_vret hx hb hr hlocks hW h dX5_beginLoan_44)

def wX5_prolong (S0 : Nat) (k0 : kS) (c1 : Nat) (Q : kS → Prop) : Prop := (((k0.1 23 c1) = 2 → (((k0.1 25 c1) = 0 → (∀ k3 : kS, k3 = kset k0 24 c1 ((k0.1 24 c1) + 20) → Q k3)) ∧ (¬ (k0.1 25 c1) = 0 → Q k0))) ∧ (¬ (k0.1 23 c1) = 2 → Q k0))
theorem hin_X5_prolong_3 : ∀ w ∈ u_ws RX3 TX3 7, w ∈ wsX5_prolong := by decide +kernel
set_option maxHeartbeats 8000000 in
set_option maxRecDepth 100000 in
theorem cX5_prolong_ok (l : Launch) (hlt : l.stackTraces = false) (D : zD) (S0 : Nat) (g : zF) (k0 : kS) (c1 : Nat) (hc1 : k0.2.2 c1 = 3) (Q : kS → Prop) (h : wX5_prolong S0 k0 c1 Q) : Met l yX5_prolong wsX5_prolong { frames := 0, cells := 0, slots := 8 * (0), locals := 0 } (zPc D S0 (xR D S0 g k0 k0) [.ref S0, .ref c1]) (va_Qv Q (zB D S0 (fun u => xR D S0 g k0 u)) (zA S0)) (0) (8 * (0)) (zA S0) := by
  refine zMet (cc := cX5_prolong) (maxL := 2) (ret := none) (by decide) rfl (Nat.le_of_ble_eq_true rfl) (fun p e s m args below meth c ls hx hb hr hml hown hts hlocks hnm hs hE hW hl => ?_)
  have hsz := xW_sz hW
  have hs0 : S0 ≤ s.heap.size := hs
  have hin3 := hin_X5_prolong_3
  replace hl : lv_has ls 2 [(0, .ref S0), (1, .ref c1)] := hl
  unfold wX5_prolong at h
  refine lv_aload_n hx hb dX5_prolong_0 rfl (lv_at hl 1 rfl) ?_
  refine zw_get (C := RX3) (T := TX3) (N := 7) hx hb hts hin3 hown hE.1 hW (xC_R hc1) rfl 3 (by decide) (hts (.fieldLink RX5 131 "UnionList$Request" "state" "I") (by decide +kernel)) (fun _ h9 => h9) rfl dX5_prolong_1 ?_
  refine lv_iconst (v := 2) hx hb dX5_prolong_4 (by decide) ?_
  refine lv_icmp_ne (tgt := 26) hx hb dX5_prolong_5 (by decide) (fun c_1 => ?_) (fun c_1 => ?_)
  · replace h := h.2 c_1
    refine W.widen (k := 0) (n := 8 * (0)) (by omega) (by omega) ?_
    exact (z_vret hx hb hr hlocks hW h dX5_prolong_26)
  · replace h := h.1 c_1
    refine lv_aload_n hx hb dX5_prolong_8 rfl (lv_at hl 1 rfl) ?_
    refine zw_get (C := RX3) (T := TX3) (N := 7) hx hb hts hin3 hown hE.1 hW (xC_R hc1) rfl 5 (by decide) (hts (.fieldLink RX5 160 "UnionList$Request" "recallSent" "Z") (by decide +kernel)) (fun _ h9 => h9) rfl dX5_prolong_9 ?_
    refine lv_if_ne (tgt := 26) hx hb dX5_prolong_12 (by decide) (fun c_2 => ?_) (fun c_2 => ?_)
    · replace h := h.2 c_2
      refine W.widen (k := 0) (n := 8 * (0)) (by omega) (by omega) ?_
      exact (z_vret hx hb hr hlocks hW h dX5_prolong_26)
    · replace h := h.1 c_2
      refine lv_aload_n hx hb dX5_prolong_15 rfl (lv_at hl 1 rfl) ?_
      refine lv_dup hx hb dX5_prolong_16 rfl ?_
      refine zw_get (C := RX3) (T := TX3) (N := 7) hx hb hts hin3 hown hE.1 hW (xC_R hc1) rfl 4 (by decide) (hts (.fieldLink RX5 143 "UnionList$Request" "dueDay" "I") (by decide +kernel)) (fun _ h9 => h9) rfl dX5_prolong_17 ?_
      refine lv_bipush (v := 20) hx hb dX5_prolong_20 (by decide) ?_
      refine lv_iadd hx hb dX5_prolong_22 ?_
      refine zw_put (C := RX3) (T := TX3) (N := 7) hx hb hts hin3 tyX3 tyX3_ok nmX3 hown hE.1 hW (xC_R hc1) rfl 4 (by decide) (hts (.fieldLink RX5 143 "UnionList$Request" "dueDay" "I") (by decide +kernel)) (fun _ h9 => h9) rfl rfl rfl (Nat.le_of_ble_eq_true rfl) dX5_prolong_23 (xP_R4 hc1) (fun H locs hW => ?_)
      obtain ⟨k3, ek3⟩ : ∃ y, y = kset k0 24 c1 ((k0.1 24 c1) + 20) := ⟨_, rfl⟩
      rw [← ek3] at hW
      replace h := h k3 ek3
      replace hc1 : k3.2.2 c1 = 3 := by rw [ek3]; exact hc1
      refine W.widen (k := 0) (n := 8 * (0)) (by omega) (by omega) ?_
      exact (z_vret hx hb hr hlocks hW h dX5_prolong_26)

def wX5_shorten (S0 : Nat) (k0 : kS) (c1 : Nat) (Q : kS → Prop) : Prop := (((k0.1 23 c1) = 2 → (∀ k2 : kS, k2 = kset k0 24 c1 (if ((k0.1 2 0) + 5) < (k0.1 24 c1) then ((k0.1 2 0) + 5) else (k0.1 24 c1)) → Q k2)) ∧ (¬ (k0.1 23 c1) = 2 → Q k0))
theorem hin_X5_shorten_3 : ∀ w ∈ u_ws RX3 TX3 7, w ∈ wsX5_shorten := by decide +kernel
theorem hin_X5_shorten_5 : ∀ w ∈ u_ws RX5 TX5 7, w ∈ wsX5_shorten := by decide +kernel
set_option maxHeartbeats 8000000 in
set_option maxRecDepth 100000 in
theorem cX5_shorten_ok (l : Launch) (hlt : l.stackTraces = false) (D : zD) (S0 : Nat) (g : zF) (k0 : kS) (c1 : Nat) (hc1 : k0.2.2 c1 = 3) (Q : kS → Prop) (h : wX5_shorten S0 k0 c1 Q) : Met l yX5_shorten wsX5_shorten { frames := 1, cells := 0, slots := 8 * (0), locals := 22 } (zPc D S0 (xR D S0 g k0 k0) [.ref S0, .ref c1]) (va_Qv Q (zB D S0 (fun u => xR D S0 g k0 u)) (zA S0)) (0) (8 * (0)) (zA S0) := by
  refine zMet (cc := cX5_shorten) (maxL := 2) (ret := none) (by decide) rfl (Nat.le_of_ble_eq_true rfl) (fun p e s m args below meth c ls hx hb hr hml hown hts hlocks hnm hs hE hW hl => ?_)
  have hsz := xW_sz hW
  have hs0 : S0 ≤ s.heap.size := hs
  have hin3 := hin_X5_shorten_3
  have hin5 := hin_X5_shorten_5
  replace hl : lv_has ls 2 [(0, .ref S0), (1, .ref c1)] := hl
  unfold wX5_shorten at h
  refine lv_aload_n hx hb dX5_shorten_0 rfl (lv_at hl 1 rfl) ?_
  refine zw_get (C := RX3) (T := TX3) (N := 7) hx hb hts hin3 hown hE.1 hW (xC_R hc1) rfl 3 (by decide) (hts (.fieldLink RX5 131 "UnionList$Request" "state" "I") (by decide +kernel)) (fun _ h9 => h9) rfl dX5_shorten_1 ?_
  refine lv_iconst (v := 2) hx hb dX5_shorten_4 (by decide) ?_
  refine lv_icmp_ne (tgt := 25) hx hb dX5_shorten_5 (by decide) (fun c_1 => ?_) (fun c_1 => ?_)
  · replace h := h.2 c_1
    refine W.widen (k := 0) (n := 8 * (0)) (by omega) (by omega) ?_
    exact (z_vret hx hb hr hlocks hW h dX5_shorten_25)
  · replace h := h.1 c_1
    refine lv_aload_n hx hb dX5_shorten_8 rfl (lv_at hl 1 rfl) ?_
    refine lv_aload_n hx hb dX5_shorten_9 rfl (lv_at hl 1 rfl) ?_
    refine zw_get (C := RX3) (T := TX3) (N := 7) hx hb hts hin3 hown hE.1 hW (xC_R hc1) rfl 4 (by decide) (hts (.fieldLink RX5 143 "UnionList$Request" "dueDay" "I") (by decide +kernel)) (fun _ h9 => h9) rfl dX5_shorten_10 ?_
    refine lv_aload_n hx hb dX5_shorten_13 rfl (lv_at hl 0 rfl) ?_
    refine zw_get (C := RX5) (T := TX5) (N := 7) hx hb hts hin5 hown hE.1 hW xC_U rfl 6 (by decide) (hts (.fieldLink RX5 44 "UnionList" "day" "I") (by decide +kernel)) (fun _ h9 => h9) rfl dX5_shorten_14 ?_
    refine lv_iconst (v := 5) hx hb dX5_shorten_17 (by decide) ?_
    refine lv_iadd hx hb dX5_shorten_18 ?_
    refine va_mmin hx hb (hml.trans hl.1.symm) hown (hts (.methodLink RX5 266 Lib.Math.min.name) (by decide +kernel)) (hts (.static Lib.Math.min.name) (by decide +kernel)) (hts (.initialized "java/lang/Math") (by decide +kernel)) (hts (.code Lib.Math.min.name Lib.Math.min.code 2 (some .int)) (by decide +kernel)) (Nat.le_of_ble_eq_true rfl) (Nat.le_of_ble_eq_true rfl) (by show _ ≤ 0; omega) (by show _ ≤ 8 * (0); omega) dX5_shorten_19 ?_
    refine zw_put (C := RX3) (T := TX3) (N := 7) hx hb hts hin3 tyX3 tyX3_ok nmX3 hown hE.1 hW (xC_R hc1) rfl 4 (by decide) (hts (.fieldLink RX5 143 "UnionList$Request" "dueDay" "I") (by decide +kernel)) (fun _ h9 => h9) rfl rfl rfl (Nat.le_of_ble_eq_true rfl) dX5_shorten_22 (xP_R4 hc1) (fun H locs hW => ?_)
    obtain ⟨k2, ek2⟩ : ∃ y, y = kset k0 24 c1 (if ((k0.1 2 0) + 5) < (k0.1 24 c1) then ((k0.1 2 0) + 5) else (k0.1 24 c1)) := ⟨_, rfl⟩
    rw [← ek2] at hW
    replace h := h k2 ek2
    replace hc1 : k2.2.2 c1 = 3 := by rw [ek2]; exact hc1
    refine W.widen (k := 0) (n := 8 * (0)) (by omega) (by omega) ?_
    exact (z_vret hx hb hr hlocks hW h dX5_shorten_25)

def wX5_comeHome (S0 : Nat) (k0 : kS) (c1 : Nat) (c2 : Nat) (Q : kS → Prop) : Prop := (∀ k1 : kS, k1 = kset k0 13 c1 (k0.1 11 c1) → (∀ k2 : kS, k2 = kset k1 14 c1 0 → (∀ k3 : kS, k3 = kset k2 23 c2 4 → (wX5_examine S0 k3 c1 (fun r4 k5 => (wX1_canBeSent S0 k5 c1 (fun r6 k7 => ((r6 = 0 → Q k7) ∧ (¬ r6 = 0 → (wX5_sendNews S0 k7 0 c1 (fun k10 => Q k10)))))))))))
theorem hin_X5_comeHome_1 : ∀ w ∈ u_ws RX1 TX1 8, w ∈ wsX5_comeHome := by decide +kernel
theorem hin_X5_comeHome_3 : ∀ w ∈ u_ws RX3 TX3 7, w ∈ wsX5_comeHome := by decide +kernel
set_option maxHeartbeats 8000000 in
set_option maxRecDepth 100000 in
theorem cX5_comeHome_ok (l : Launch) (hlt : l.stackTraces = false) (D : zD) (S0 : Nat) (g : zF) (k0 : kS) (c1 : Nat) (c2 : Nat) (hc1 : k0.2.2 c1 = 1) (hc2 : k0.2.2 c2 = 3) (Q : kS → Prop) (h : wX5_comeHome S0 k0 c1 c2 Q) : Met l yX5_comeHome wsX5_comeHome { frames := 4, cells := 1, slots := 8 * (1), locals := 91 } (zPc D S0 (xR D S0 g k0 k0) [.ref S0, .ref c1, .ref c2]) (va_Qv Q (zB D S0 (fun u => xR D S0 g k0 u)) (zA S0)) (1) (8 * (1)) (zA S0) := by
  refine zMet (cc := cX5_comeHome) (maxL := 3) (ret := none) (by decide) rfl (Nat.le_of_ble_eq_true rfl) (fun p e s m args below meth c ls hx hb hr hml hown hts hlocks hnm hs hE hW hl => ?_)
  have hsz := xW_sz hW
  have hs0 : S0 ≤ s.heap.size := hs
  have hin1 := hin_X5_comeHome_1
  have hin3 := hin_X5_comeHome_3
  replace hl : lv_has ls 3 [(0, .ref S0), (1, .ref c1), (2, .ref c2)] := hl
  unfold wX5_comeHome at h
  refine lv_aload_n hx hb dX5_comeHome_0 rfl (lv_at hl 1 rfl) ?_
  refine lv_aload_n hx hb dX5_comeHome_1 rfl (lv_at hl 1 rfl) ?_
  refine zw_get (C := RX1) (T := TX1) (N := 8) hx hb hts hin1 hown hE.1 hW (xC_C hc1) rfl 1 (by decide) (hts (.fieldLink RX5 149 "UnionList$Copy" "home" "I") (by decide +kernel)) (fun _ h9 => h9) rfl dX5_comeHome_2 ?_
  refine zw_put (C := RX1) (T := TX1) (N := 8) hx hb hts hin1 tyX1 tyX1_ok nmX1 hown hE.1 hW (xC_C hc1) rfl 3 (by decide) (hts (.fieldLink RX5 80 "UnionList$Copy" "holder" "I") (by decide +kernel)) (fun _ h9 => h9) rfl rfl rfl (Nat.le_of_ble_eq_true rfl) dX5_comeHome_5 (xP_C3 hc1) (fun H locs hW => ?_)
  obtain ⟨k1, ek1⟩ : ∃ y, y = kset k0 13 c1 (k0.1 11 c1) := ⟨_, rfl⟩
  rw [← ek1] at hW
  replace h := h k1 ek1
  replace hc1 : k1.2.2 c1 = 1 := by rw [ek1]; exact hc1
  replace hc2 : k1.2.2 c2 = 3 := by rw [ek1]; exact hc2
  refine lv_aload_n hx hb dX5_comeHome_8 rfl (lv_at hl 1 rfl) ?_
  refine lv_iconst (v := 0) hx hb dX5_comeHome_9 (by decide) ?_
  refine zw_put (C := RX1) (T := TX1) (N := 8) hx hb hts hin1 tyX1 tyX1_ok nmX1 hown hE.1 hW (xC_C hc1) rfl 4 (by decide) (hts (.fieldLink RX5 98 "UnionList$Copy" "onItsWay" "Z") (by decide +kernel)) (fun _ h9 => h9) rfl rfl rfl (Nat.le_of_ble_eq_true rfl) dX5_comeHome_10 (xP_C4 hc1) (fun H locs hW => ?_)
  obtain ⟨k2, ek2⟩ : ∃ y, y = kset k1 14 c1 0 := ⟨_, rfl⟩
  rw [← ek2] at hW
  replace h := h k2 ek2
  replace hc1 : k2.2.2 c1 = 1 := by rw [ek2]; exact hc1
  replace hc2 : k2.2.2 c2 = 3 := by rw [ek2]; exact hc2
  refine lv_aload_n hx hb dX5_comeHome_13 rfl (lv_at hl 2 rfl) ?_
  refine lv_iconst (v := 4) hx hb dX5_comeHome_14 (by decide) ?_
  refine zw_put (C := RX3) (T := TX3) (N := 7) hx hb hts hin3 tyX3 tyX3_ok nmX3 hown hE.1 hW (xC_R hc2) rfl 3 (by decide) (hts (.fieldLink RX5 131 "UnionList$Request" "state" "I") (by decide +kernel)) (fun _ h9 => h9) rfl rfl rfl (Nat.le_of_ble_eq_true rfl) dX5_comeHome_15 (xP_R3 hc2) (fun H locs hW => ?_)
  obtain ⟨k3, ek3⟩ : ∃ y, y = kset k2 23 c2 4 := ⟨_, rfl⟩
  rw [← ek3] at hW
  replace h := h k3 ek3
  replace hc1 : k3.2.2 c1 = 1 := by rw [ek3]; exact hc1
  replace hc2 : k3.2.2 c2 = 3 := by rw [ek3]; exact hc2
  refine lv_aload_n hx hb dX5_comeHome_18 rfl (lv_at hl 0 rfl) ?_
  refine lv_aload_n hx hb dX5_comeHome_19 rfl (lv_at hl 1 rfl) ?_
  have hle := xW_kle hW
  refine zc_i (va_runV (As := [.ref c1]) (rest := []) ⟨hx, hb, hml, hown, hts⟩ (cX5_examine_ok l hlt D S0 g k3 c1 hc1 _ h) (cwV 1 hts gX5_comeHome_X5_examine rfl rfl rfl (by decide +kernel) ⟨Nat.le_of_ble_eq_true rfl, Nat.le_of_ble_eq_true rfl⟩) (zpreV (q := (RX5, TX5, 7)) hE hs (xW_start hW) xC_U rfl) rfl rfl hl.1 rfl (lv_room (Nat.le_of_ble_eq_true rfl)) dX5_comeHome_20 ⟨by show _ ≤ 1; omega, by show _ ≤ 8 * (1); omega⟩) hW (fun r4 k5 H locs h hW => ?_)
  replace hc1 := kle_1 (xW_kle hW) hc1
  replace hc2 := kle_3 (xW_kle hW) hc2
  replace hW := hW.mono (xR_tr hle)
  refine W.widen (k := 0) (n := 8 * (0)) (by omega) (by omega) ?_
  refine lv_pop hx hb dX5_comeHome_23 rfl ?_
  refine lv_aload_n hx hb dX5_comeHome_24 rfl (lv_at hl 1 rfl) ?_
  have hle := xW_kle hW
  refine zc_i (va_runV (As := []) (rest := []) ⟨hx, hb, hml, hown, hts⟩ (cX1_canBeSent_ok l hlt D S0 g k5 c1 hc1 _ h) (cwV 0 hts gX5_comeHome_X1_canBeSent rfl rfl rfl (by decide +kernel) ⟨Nat.le_of_ble_eq_true rfl, Nat.le_of_ble_eq_true rfl⟩) (zpreV (q := (RX1, TX1, 8)) hE hs (xW_start hW) (xC_C hc1) rfl) rfl rfl hl.1 rfl (lv_room (Nat.le_of_ble_eq_true rfl)) dX5_comeHome_25 ⟨by show _ ≤ 1; omega, by show _ ≤ 8 * (1); omega⟩) hW (fun r6 k7 H locs h hW => ?_)
  obtain ⟨h, hz_r6⟩ := h
  replace hc1 := kle_1 (xW_kle hW) hc1
  replace hc2 := kle_3 (xW_kle hW) hc2
  replace hW := hW.mono (xR_tr hle)
  refine W.widen (k := 0) (n := 8 * (0)) (by omega) (by omega) ?_
  refine lv_if_eq (tgt := 37) hx hb dX5_comeHome_28 (by decide) (fun c_8 => ?_) (fun c_8 => ?_)
  · replace h := h.1 c_8
    refine W.widen (k := 1) (n := 8 * (1)) (by omega) (by omega) ?_
    exact (z_vret hx hb hr hlocks hW h dX5_comeHome_37)
  · replace h := h.2 c_8
    refine lv_aload_n hx hb dX5_comeHome_31 rfl (lv_at hl 0 rfl) ?_
    refine lv_iconst (v := 0) hx hb dX5_comeHome_32 (by decide) ?_
    refine lv_aload_n hx hb dX5_comeHome_33 rfl (lv_at hl 1 rfl) ?_
    have hle := xW_kle hW
    refine zc_v (va_runV (As := [.int 0, .ref c1]) (rest := []) ⟨hx, hb, hml, hown, hts⟩ (cX5_sendNews_ok l hlt D S0 g k7 0 c1 hc1 _ h) (cwV 2 hts gX5_comeHome_X5_sendNews rfl rfl rfl (by decide +kernel) ⟨Nat.le_of_ble_eq_true rfl, Nat.le_of_ble_eq_true rfl⟩) (zpreV (q := (RX5, TX5, 7)) hE hs (xW_start hW) xC_U rfl) rfl rfl hl.1 rfl (lv_room (Nat.le_of_ble_eq_true rfl)) dX5_comeHome_34 ⟨by show _ ≤ 1; omega, by show _ ≤ 8 * (1); omega⟩) hW (fun k10 H locs h hW => ?_)
    replace hc1 := kle_1 (xW_kle hW) hc1
    replace hc2 := kle_3 (xW_kle hW) hc2
    replace hW := hW.mono (xR_tr hle)
    refine W.widen (k := 0 + 1) (n := 8 * (0 + 1)) (by omega) (by omega) ?_
    refine W.widen (k := 1) (n := 8 * (1)) (by omega) (by omega) ?_
    exact (z_vret hx hb hr hlocks hW h dX5_comeHome_37)

def wX5_deliver (S0 : Nat) (B : Nat) (k0 : kS) (c1 : Nat) (Q : kS → Prop) : Prop := (((k0.2.1 32 c1) = none → Q k0) ∧ (∀ o1 : Nat, (k0.2.1 32 c1) = some o1 → (((k0.2.1 33 c1) = none → (((k0.1 30 c1) = 0 → (∀ k9 : kS, k9 = kset k0 15 o1 1 → Q k9)) ∧ (¬ (k0.1 30 c1) = 0 → (∀ k8 : kS, k8 = kset k0 15 o1 0 → Q k8)))) ∧ (∀ o4 : Nat, (k0.2.1 33 c1) = some o4 → (((k0.1 30 c1) = 2 → (0 + 2 ≤ B ∧ (wX5_answerQuestion S0 k0 o1 o4 (fun k13 => Q k13)))) ∧ ((k0.1 30 c1) = 3 → (wX5_beginLoan S0 k0 o1 o4 (fun k16 => Q k16))) ∧ ((k0.1 30 c1) = 4 → (0 + 1 ≤ B ∧ (wX5_comeHome S0 k0 o1 o4 (fun k20 => Q k20)))) ∧ ((k0.1 30 c1) = 5 → (wX5_prolong S0 k0 o4 (fun k23 => Q k23))) ∧ ((k0.1 30 c1) = 6 → (wX5_shorten S0 k0 o4 (fun k26 => Q k26))) ∧ ((¬ (k0.1 30 c1) = 2 ∧ ¬ (k0.1 30 c1) = 3 ∧ ¬ (k0.1 30 c1) = 4 ∧ ¬ (k0.1 30 c1) = 5 ∧ ¬ (k0.1 30 c1) = 6) → Q k0))))))
theorem hin_X5_deliver_1 : ∀ w ∈ u_ws RX1 TX1 8, w ∈ wsX5_deliver := by decide +kernel
theorem hin_X5_deliver_4 : ∀ w ∈ u_ws RX4 TX4 4, w ∈ wsX5_deliver := by decide +kernel
set_option maxHeartbeats 8000000 in
set_option maxRecDepth 100000 in
theorem cX5_deliver_ok (l : Launch) (hlt : l.stackTraces = false) (D : zD) (S0 : Nat) (g : zF) (B : Nat) (k0 : kS) (c1 : Nat) (hc1 : k0.2.2 c1 = 4) (Q : kS → Prop) (h : wX5_deliver S0 B k0 c1 Q) : Met l yX5_deliver wsX5_deliver { frames := 5, cells := B, slots := 8 * (B), locals := 115 } (zPc D S0 (xR D S0 g k0 k0) [.ref S0, .ref c1]) (va_Qv Q (zB D S0 (fun u => xR D S0 g k0 u)) (zA S0)) (B) (8 * (B)) (zA S0) := by
  refine zMet (cc := cX5_deliver) (maxL := 4) (ret := none) (by decide) rfl (Nat.le_of_ble_eq_true rfl) (fun p e s m args below meth c ls hx hb hr hml hown hts hlocks hnm hs hE hW hl => ?_)
  have hsz := xW_sz hW
  have hs0 : S0 ≤ s.heap.size := hs
  have hin1 := hin_X5_deliver_1
  have hin4 := hin_X5_deliver_4
  replace hl : lv_has ls 4 [(0, .ref S0), (1, .ref c1)] := hl
  unfold wX5_deliver at h
  refine lv_aload_n hx hb dX5_deliver_0 rfl (lv_at hl 1 rfl) ?_
  refine zw_get (C := RX4) (T := TX4) (N := 4) hx hb hts hin4 hown hE.1 hW (xC_S hc1) rfl 2 (by decide) (hts (.fieldLink RX5 228 "UnionList$Sent" "copy" "LUnionList$Copy;") (by decide +kernel)) (fun _ h9 => h9) rfl dX5_deliver_1 ?_
  rcases eo_2 : (k0.2.1 32 c1) with _ | o1
  · replace h := h.1 eo_2
    refine lv_astore_nN (lv' := [(2, .null), (0, .ref S0), (1, .ref c1)]) hx hb dX5_deliver_4 rfl hl (by decide) rfl (fun ls hl => ?_)
    refine lv_aload_nN hx hb dX5_deliver_5 rfl (lv_at hl 0 rfl) ?_
    refine lv_ifnonnullN hx hb dX5_deliver_6 ?_
    refine W.widen (k := B) (n := 8 * (B)) (by omega) (by omega) ?_
    exact (z_vret hx hb hr hlocks hW h dX5_deliver_9)
  · replace h := h.2 o1 eo_2
    have hc_3 : k0.2.2 o1 = 1 := (xW_T hW).2.2.2.2.1 _ _ hc1 eo_2
    refine lv_astore_n (lv' := [(2, .ref o1), (0, .ref S0), (1, .ref c1)]) hx hb dX5_deliver_4 rfl hl (by decide) rfl (fun ls hl => ?_)
    refine lv_aload_n hx hb dX5_deliver_5 rfl (lv_at hl 0 rfl) ?_
    refine lv_ifnonnull (tgt := 10) hx hb dX5_deliver_6 (by decide) ?_
    refine lv_aload_n hx hb dX5_deliver_10 rfl (lv_at hl 2 rfl) ?_
    refine zw_get (C := RX4) (T := TX4) (N := 4) hx hb hts hin4 hown hE.1 hW (xC_S hc1) rfl 3 (by decide) (hts (.fieldLink RX5 229 "UnionList$Sent" "request" "LUnionList$Request;") (by decide +kernel)) (fun _ h9 => h9) rfl dX5_deliver_11 ?_
    rcases eo_5 : (k0.2.1 33 c1) with _ | o4
    · replace h := h.1 eo_5
      refine lv_astore_nN (lv' := [(3, .null), (2, .ref o1), (0, .ref S0), (1, .ref c1)]) hx hb dX5_deliver_14 rfl hl (by decide) rfl (fun ls hl => ?_)
      refine lv_aload_nN hx hb dX5_deliver_15 rfl (lv_at hl 0 rfl) ?_
      refine lv_ifnonnullN hx hb dX5_deliver_16 ?_
      refine lv_aload_n hx hb dX5_deliver_19 rfl (lv_at hl 1 rfl) ?_
      refine lv_aload_n hx hb dX5_deliver_20 rfl (lv_at hl 3 rfl) ?_
      refine zw_get (C := RX4) (T := TX4) (N := 4) hx hb hts hin4 hown hE.1 hW (xC_S hc1) rfl 0 (by decide) (hts (.fieldLink RX5 233 "UnionList$Sent" "kind" "I") (by decide +kernel)) (fun _ h9 => h9) rfl dX5_deliver_21 ?_
      refine lv_if_ne (tgt := 31) hx hb dX5_deliver_24 (by decide) (fun c_7 => ?_) (fun c_7 => ?_)
      · replace h := h.2 c_7
        refine lv_iconst (v := 0) hx hb dX5_deliver_31 (by decide) ?_
        refine zw_put (C := RX1) (T := TX1) (N := 8) hx hb hts hin1 tyX1 tyX1_ok nmX1 hown hE.1 hW (xC_C hc_3) rfl 5 (by decide) (hts (.fieldLink RX5 87 "UnionList$Copy" "knownToList" "I") (by decide +kernel)) (fun _ h9 => h9) rfl rfl rfl (Nat.le_of_ble_eq_true rfl) dX5_deliver_32 (xP_C5 hc_3) (fun H locs hW => ?_)
        obtain ⟨k8, ek8⟩ : ∃ y, y = kset k0 15 o1 0 := ⟨_, rfl⟩
        rw [← ek8] at hW
        replace h := h k8 ek8
        replace hc1 : k8.2.2 c1 = 4 := by rw [ek8]; exact hc1
        replace hc_3 : k8.2.2 o1 = 1 := by rw [ek8]; exact hc_3
        refine W.widen (k := B) (n := 8 * (B)) (by omega) (by omega) ?_
        exact (z_vret hx hb hr hlocks hW h dX5_deliver_35)
      · replace h := h.1 c_7
        refine lv_iconst (v := 1) hx hb dX5_deliver_27 (by decide) ?_
        refine lv_goto (tgt := 32) hx hb dX5_deliver_28 (by decide) ?_
        refine zw_put (C := RX1) (T := TX1) (N := 8) hx hb hts hin1 tyX1 tyX1_ok nmX1 hown hE.1 hW (xC_C hc_3) rfl 5 (by decide) (hts (.fieldLink RX5 87 "UnionList$Copy" "knownToList" "I") (by decide +kernel)) (fun _ h9 => h9) rfl rfl rfl (Nat.le_of_ble_eq_true rfl) dX5_deliver_32 (xP_C5 hc_3) (fun H locs hW => ?_)
        obtain ⟨k9, ek9⟩ : ∃ y, y = kset k0 15 o1 1 := ⟨_, rfl⟩
        rw [← ek9] at hW
        replace h := h k9 ek9
        replace hc1 : k9.2.2 c1 = 4 := by rw [ek9]; exact hc1
        replace hc_3 : k9.2.2 o1 = 1 := by rw [ek9]; exact hc_3
        refine W.widen (k := B) (n := 8 * (B)) (by omega) (by omega) ?_
        exact (z_vret hx hb hr hlocks hW h dX5_deliver_35)
    · replace h := h.2 o4 eo_5
      have hc_6 : k0.2.2 o4 = 3 := (xW_T hW).2.2.2.2.2 _ _ hc1 eo_5
      refine lv_astore_n (lv' := [(3, .ref o4), (2, .ref o1), (0, .ref S0), (1, .ref c1)]) hx hb dX5_deliver_14 rfl hl (by decide) rfl (fun ls hl => ?_)
      refine lv_aload_n hx hb dX5_deliver_15 rfl (lv_at hl 0 rfl) ?_
      refine lv_ifnonnull (tgt := 36) hx hb dX5_deliver_16 (by decide) ?_
      refine lv_aload_n hx hb dX5_deliver_36 rfl (lv_at hl 3 rfl) ?_
      refine zw_get (C := RX4) (T := TX4) (N := 4) hx hb hts hin4 hown hE.1 hW (xC_S hc1) rfl 0 (by decide) (hts (.fieldLink RX5 233 "UnionList$Sent" "kind" "I") (by decide +kernel)) (fun _ h9 => h9) rfl dX5_deliver_37 ?_
      refine (Classical.em ((k0.1 30 c1) = 2)).elim (fun c_10 => ?_) (fun c_10 => ?_)
      · replace h := h.1 c_10
        refine lv_tableIn (tgt := 76) (off := 36) hx hb dX5_deliver_40 (by rw [c_10]; decide) (by rw [c_10]; decide) (by rw [c_10]; rfl) (by decide) ?_
        refine lv_aload_n hx hb dX5_deliver_76 rfl (lv_at hl 2 rfl) ?_
        refine lv_aload_n hx hb dX5_deliver_77 rfl (lv_at hl 1 rfl) ?_
        refine lv_aload_n hx hb dX5_deliver_78 rfl (lv_at hl 0 rfl) ?_
        obtain ⟨hb_11, h⟩ := h
        have hle := xW_kle hW
        refine zc_v (va_runV (As := [.ref o1, .ref o4]) (rest := []) ⟨hx, hb, hml, hown, hts⟩ (cX5_answerQuestion_ok l hlt D S0 g k0 o1 o4 hc_3 hc_6 _ h) (cwV 2 hts gX5_deliver_X5_answerQuestion rfl rfl rfl (by decide +kernel) ⟨Nat.le_of_ble_eq_true rfl, Nat.le_of_ble_eq_true rfl⟩) (zpreV (q := (RX5, TX5, 7)) hE hs (xW_start hW) xC_U rfl) rfl rfl hl.1 rfl (lv_room (Nat.le_of_ble_eq_true rfl)) dX5_deliver_79 ⟨by show _ ≤ B; omega, by show _ ≤ 8 * (B); omega⟩) hW (fun k13 H locs h hW => ?_)
        replace hc1 := kle_4 (xW_kle hW) hc1
        replace hc_3 := kle_1 (xW_kle hW) hc_3
        replace hc_6 := kle_3 (xW_kle hW) hc_6
        replace hW := hW.mono (xR_tr hle)
        refine W.widen (k := 0 + 2) (n := 8 * (0 + 2)) (by omega) (by omega) ?_
        refine lv_goto (tgt := 119) hx hb dX5_deliver_82 (by decide) ?_
        refine W.widen (k := B) (n := 8 * (B)) (by omega) (by omega) ?_
        exact (z_vret hx hb hr hlocks hW h dX5_deliver_119)
      replace h := h.2
      refine (Classical.em ((k0.1 30 c1) = 3)).elim (fun c_14 => ?_) (fun c_14 => ?_)
      · replace h := h.1 c_14
        refine lv_tableIn (tgt := 85) (off := 45) hx hb dX5_deliver_40 (by rw [c_14]; decide) (by rw [c_14]; decide) (by rw [c_14]; rfl) (by decide) ?_
        refine lv_aload_n hx hb dX5_deliver_85 rfl (lv_at hl 2 rfl) ?_
        refine lv_aload_n hx hb dX5_deliver_86 rfl (lv_at hl 1 rfl) ?_
        refine lv_aload_n hx hb dX5_deliver_87 rfl (lv_at hl 0 rfl) ?_
        have hle := xW_kle hW
        refine zc_v (va_runV (As := [.ref o1, .ref o4]) (rest := []) ⟨hx, hb, hml, hown, hts⟩ (cX5_beginLoan_ok l hlt D S0 g k0 o1 o4 hc_3 hc_6 _ h) (cwV 2 hts gX5_deliver_X5_beginLoan rfl rfl rfl (by decide +kernel) ⟨Nat.le_of_ble_eq_true rfl, Nat.le_of_ble_eq_true rfl⟩) (zpreV (q := (RX5, TX5, 7)) hE hs (xW_start hW) xC_U rfl) rfl rfl hl.1 rfl (lv_room (Nat.le_of_ble_eq_true rfl)) dX5_deliver_88 ⟨by show _ ≤ B; omega, by show _ ≤ 8 * (B); omega⟩) hW (fun k16 H locs h hW => ?_)
        replace hc1 := kle_4 (xW_kle hW) hc1
        replace hc_3 := kle_1 (xW_kle hW) hc_3
        replace hc_6 := kle_3 (xW_kle hW) hc_6
        replace hW := hW.mono (xR_tr hle)
        refine W.widen (k := 0) (n := 8 * (0)) (by omega) (by omega) ?_
        refine lv_goto (tgt := 119) hx hb dX5_deliver_91 (by decide) ?_
        refine W.widen (k := B) (n := 8 * (B)) (by omega) (by omega) ?_
        exact (z_vret hx hb hr hlocks hW h dX5_deliver_119)
      replace h := h.2
      refine (Classical.em ((k0.1 30 c1) = 4)).elim (fun c_17 => ?_) (fun c_17 => ?_)
      · replace h := h.1 c_17
        refine lv_tableIn (tgt := 94) (off := 54) hx hb dX5_deliver_40 (by rw [c_17]; decide) (by rw [c_17]; decide) (by rw [c_17]; rfl) (by decide) ?_
        refine lv_aload_n hx hb dX5_deliver_94 rfl (lv_at hl 2 rfl) ?_
        refine lv_aload_n hx hb dX5_deliver_95 rfl (lv_at hl 1 rfl) ?_
        refine lv_aload_n hx hb dX5_deliver_96 rfl (lv_at hl 0 rfl) ?_
        obtain ⟨hb_18, h⟩ := h
        have hle := xW_kle hW
        refine zc_v (va_runV (As := [.ref o1, .ref o4]) (rest := []) ⟨hx, hb, hml, hown, hts⟩ (cX5_comeHome_ok l hlt D S0 g k0 o1 o4 hc_3 hc_6 _ h) (cwV 2 hts gX5_deliver_X5_comeHome rfl rfl rfl (by decide +kernel) ⟨Nat.le_of_ble_eq_true rfl, Nat.le_of_ble_eq_true rfl⟩) (zpreV (q := (RX5, TX5, 7)) hE hs (xW_start hW) xC_U rfl) rfl rfl hl.1 rfl (lv_room (Nat.le_of_ble_eq_true rfl)) dX5_deliver_97 ⟨by show _ ≤ B; omega, by show _ ≤ 8 * (B); omega⟩) hW (fun k20 H locs h hW => ?_)
        replace hc1 := kle_4 (xW_kle hW) hc1
        replace hc_3 := kle_1 (xW_kle hW) hc_3
        replace hc_6 := kle_3 (xW_kle hW) hc_6
        replace hW := hW.mono (xR_tr hle)
        refine W.widen (k := 0 + 1) (n := 8 * (0 + 1)) (by omega) (by omega) ?_
        refine lv_goto (tgt := 119) hx hb dX5_deliver_100 (by decide) ?_
        refine W.widen (k := B) (n := 8 * (B)) (by omega) (by omega) ?_
        exact (z_vret hx hb hr hlocks hW h dX5_deliver_119)
      replace h := h.2
      refine (Classical.em ((k0.1 30 c1) = 5)).elim (fun c_21 => ?_) (fun c_21 => ?_)
      · replace h := h.1 c_21
        refine lv_tableIn (tgt := 103) (off := 63) hx hb dX5_deliver_40 (by rw [c_21]; decide) (by rw [c_21]; decide) (by rw [c_21]; rfl) (by decide) ?_
        refine lv_aload_n hx hb dX5_deliver_103 rfl (lv_at hl 2 rfl) ?_
        refine lv_aload_n hx hb dX5_deliver_104 rfl (lv_at hl 0 rfl) ?_
        have hle := xW_kle hW
        refine zc_v (va_runV (As := [.ref o4]) (rest := []) ⟨hx, hb, hml, hown, hts⟩ (cX5_prolong_ok l hlt D S0 g k0 o4 hc_6 _ h) (cwV 1 hts gX5_deliver_X5_prolong rfl rfl rfl (by decide +kernel) ⟨Nat.le_of_ble_eq_true rfl, Nat.le_of_ble_eq_true rfl⟩) (zpreV (q := (RX5, TX5, 7)) hE hs (xW_start hW) xC_U rfl) rfl rfl hl.1 rfl (lv_room (Nat.le_of_ble_eq_true rfl)) dX5_deliver_105 ⟨by show _ ≤ B; omega, by show _ ≤ 8 * (B); omega⟩) hW (fun k23 H locs h hW => ?_)
        replace hc1 := kle_4 (xW_kle hW) hc1
        replace hc_3 := kle_1 (xW_kle hW) hc_3
        replace hc_6 := kle_3 (xW_kle hW) hc_6
        replace hW := hW.mono (xR_tr hle)
        refine W.widen (k := 0) (n := 8 * (0)) (by omega) (by omega) ?_
        refine lv_goto (tgt := 119) hx hb dX5_deliver_108 (by decide) ?_
        refine W.widen (k := B) (n := 8 * (B)) (by omega) (by omega) ?_
        exact (z_vret hx hb hr hlocks hW h dX5_deliver_119)
      replace h := h.2
      refine (Classical.em ((k0.1 30 c1) = 6)).elim (fun c_24 => ?_) (fun c_24 => ?_)
      · replace h := h.1 c_24
        refine lv_tableIn (tgt := 111) (off := 71) hx hb dX5_deliver_40 (by rw [c_24]; decide) (by rw [c_24]; decide) (by rw [c_24]; rfl) (by decide) ?_
        refine lv_aload_n hx hb dX5_deliver_111 rfl (lv_at hl 2 rfl) ?_
        refine lv_aload_n hx hb dX5_deliver_112 rfl (lv_at hl 0 rfl) ?_
        have hle := xW_kle hW
        refine zc_v (va_runV (As := [.ref o4]) (rest := []) ⟨hx, hb, hml, hown, hts⟩ (cX5_shorten_ok l hlt D S0 g k0 o4 hc_6 _ h) (cwV 1 hts gX5_deliver_X5_shorten rfl rfl rfl (by decide +kernel) ⟨Nat.le_of_ble_eq_true rfl, Nat.le_of_ble_eq_true rfl⟩) (zpreV (q := (RX5, TX5, 7)) hE hs (xW_start hW) xC_U rfl) rfl rfl hl.1 rfl (lv_room (Nat.le_of_ble_eq_true rfl)) dX5_deliver_113 ⟨by show _ ≤ B; omega, by show _ ≤ 8 * (B); omega⟩) hW (fun k26 H locs h hW => ?_)
        replace hc1 := kle_4 (xW_kle hW) hc1
        replace hc_3 := kle_1 (xW_kle hW) hc_3
        replace hc_6 := kle_3 (xW_kle hW) hc_6
        replace hW := hW.mono (xR_tr hle)
        refine W.widen (k := 0) (n := 8 * (0)) (by omega) (by omega) ?_
        refine lv_goto (tgt := 119) hx hb dX5_deliver_116 (by decide) ?_
        refine W.widen (k := B) (n := 8 * (B)) (by omega) (by omega) ?_
        exact (z_vret hx hb hr hlocks hW h dX5_deliver_119)
      replace h := h.2
      replace h := h ⟨c_10, c_14, c_17, c_21, c_24⟩
      refine lv_tableOut (tgt := 119) hx hb dX5_deliver_40 (tab_out (lo := 2) (hi := 6) (fun i h1 h2 => by rcases (show i = 2 ∨ i = 3 ∨ i = 4 ∨ i = 5 ∨ i = 6 by omega) with rfl | rfl | rfl | rfl | rfl <;> first | exact ti_ne c_10 (by decide) | exact ti_ne c_14 (by decide) | exact ti_ne c_17 (by decide) | exact ti_ne c_21 (by decide) | exact ti_ne c_24 (by decide))) (by decide) ?_
      refine W.widen (k := B) (n := 8 * (B)) (by omega) (by omega) ?_
      exact (z_vret hx hb hr hlocks hW h dX5_deliver_119)

def wX5_arrivalsOfNextDay_l39 (S0 : Nat) (B : Nat) (Q : Int32 → kS → Prop) : Nat → Int32 → Int32 → Int32 → Nat → kS → Prop
  | 0, _, _, _, _, _ => False
  | f8 + 1, x3, x4, x5, n7, k6 => (n7 ≤ B ∧ ((x5 ≤ x3 → Q x4 k6) ∧ (¬ x5 ≤ x3 → (wX2_takeArrived S0 k6 (k6.1 2 0) (fun r10 k11 => ((r10 = none → Q x4 k11) ∧ (∀ o13 : Nat, r10 = some o13 → (∃ b16 : Nat, n7 + b16 ≤ B ∧ (wX5_deliver S0 b16 k11 o13 (fun k19 => (wX5_arrivalsOfNextDay_l39 S0 B Q f8 (x3 + 1) (x4 + 1) x5 (n7 + b16) k19)))))))))))
def wX5_arrivalsOfNextDay (S0 : Nat) (B : Nat) (k0 : kS) (Q : Int32 → kS → Prop) : Prop := (∀ k1 : kS, k1 = kset k0 2 0 ((k0.1 2 0) + 1) → ((((k1.1 2 0) - (k1.1 2 0) / 90 * 90) = 0 → (wX0_beginQuarter S0 k1 (fun k22 => (∃ f40 : Nat, wX5_arrivalsOfNextDay_l39 S0 B Q f40 0 0 (k22.1 3 0) 0 k22)))) ∧ (¬ ((k1.1 2 0) - (k1.1 2 0) / 90 * 90) = 0 → (∃ f20 : Nat, wX5_arrivalsOfNextDay_l39 S0 B Q f20 0 0 (k1.1 3 0) 0 k1))))
theorem hin_X5_arrivalsOfNextDay_2 : ∀ w ∈ u_ws RX2 TX2 2, w ∈ wsX5_arrivalsOfNextDay := by decide +kernel
theorem hin_X5_arrivalsOfNextDay_5 : ∀ w ∈ u_ws RX5 TX5 7, w ∈ wsX5_arrivalsOfNextDay := by decide +kernel
set_option maxHeartbeats 8000000 in
set_option maxRecDepth 100000 in
theorem cX5_arrivalsOfNextDay_ok (l : Launch) (hlt : l.stackTraces = false) (D : zD) (S0 : Nat) (g : zF) (B : Nat) (k0 : kS)   (Q : Int32 → kS → Prop) (h : wX5_arrivalsOfNextDay S0 B k0 Q) : Met l yX5_arrivalsOfNextDay wsX5_arrivalsOfNextDay { frames := 6, cells := B, slots := 8 * (B), locals := 138 } (zPc D S0 (xR D S0 g k0 k0) [.ref S0]) (va_Qi Q (zB D S0 (fun u => xR D S0 g k0 u)) (zA S0)) (B) (8 * (B)) (zA S0) := by
  refine zMet (cc := cX5_arrivalsOfNextDay) (maxL := 5) (ret := (some .int)) (by decide) rfl (Nat.le_of_ble_eq_true rfl) (fun p e s m args below meth c ls hx hb hr hml hown hts hlocks hnm hs hE hW hl => ?_)
  have hsz := xW_sz hW
  have hs0 : S0 ≤ s.heap.size := hs
  have hin2 := hin_X5_arrivalsOfNextDay_2
  have hin5 := hin_X5_arrivalsOfNextDay_5
  replace hl : lv_has ls 5 [(0, .ref S0)] := hl
  unfold wX5_arrivalsOfNextDay at h
  refine lv_aload_n hx hb dX5_arrivalsOfNextDay_0 rfl (lv_at hl 0 rfl) ?_
  refine lv_dup hx hb dX5_arrivalsOfNextDay_1 rfl ?_
  refine zw_get (C := RX5) (T := TX5) (N := 7) hx hb hts hin5 hown hE.1 hW xC_U rfl 6 (by decide) (hts (.fieldLink RX5 44 "UnionList" "day" "I") (by decide +kernel)) (fun _ h9 => h9) rfl dX5_arrivalsOfNextDay_2 ?_
  refine lv_iconst (v := 1) hx hb dX5_arrivalsOfNextDay_5 (by decide) ?_
  refine lv_iadd hx hb dX5_arrivalsOfNextDay_6 ?_
  refine zw_put (C := RX5) (T := TX5) (N := 7) hx hb hts hin5 tyX5 tyX5_ok nmX5 hown hE.1 hW xC_U rfl 6 (by decide) (hts (.fieldLink RX5 44 "UnionList" "day" "I") (by decide +kernel)) (fun _ h9 => h9) rfl rfl rfl (Nat.le_of_ble_eq_true rfl) dX5_arrivalsOfNextDay_7 xP_U6 (fun H locs hW => ?_)
  obtain ⟨k1, ek1⟩ : ∃ y, y = kset k0 2 0 ((k0.1 2 0) + 1) := ⟨_, rfl⟩
  rw [← ek1] at hW
  replace h := h k1 ek1
  refine lv_aload_n hx hb dX5_arrivalsOfNextDay_10 rfl (lv_at hl 0 rfl) ?_
  refine zw_get (C := RX5) (T := TX5) (N := 7) hx hb hts hin5 hown hE.1 hW xC_U rfl 6 (by decide) (hts (.fieldLink RX5 44 "UnionList" "day" "I") (by decide +kernel)) (fun _ h9 => h9) rfl dX5_arrivalsOfNextDay_11 ?_
  refine lv_bipush (v := 90) hx hb dX5_arrivalsOfNextDay_14 (by decide) ?_
  refine lv_irem hx hb dX5_arrivalsOfNextDay_16 (by decide) ?_
  refine lv_if_ne (tgt := 27) hx hb dX5_arrivalsOfNextDay_17 (by decide) (fun c_2 => ?_) (fun c_2 => ?_)
  · replace h := h.2 c_2
    refine lv_aload_n hx hb dX5_arrivalsOfNextDay_27 rfl (lv_at hl 0 rfl) ?_
    refine zw_get (C := RX5) (T := TX5) (N := 7) hx hb hts hin5 hown hE.1 hW xC_U rfl 2 (by decide) (hts (.fieldLink RX5 26 "UnionList" "post" "LUnionList$Post;") (by decide +kernel)) (fun _ h9 => h9) rfl dX5_arrivalsOfNextDay_28 ?_
    refine zw_get (C := RX2) (T := TX2) (N := 2) hx hb hts hin2 hown hE.1 hW xC_P rfl 1 (by decide) (hts (.fieldLink RX5 218 "UnionList$Post" "size" "I") (by decide +kernel)) (fun _ h9 => h9) rfl dX5_arrivalsOfNextDay_31 ?_
    refine lv_istore_n (lv' := [(1, .int (k1.1 3 0)), (0, .ref S0)]) hx hb dX5_arrivalsOfNextDay_34 rfl hl (by decide) rfl (fun ls hl => ?_)
    refine lv_iconst (v := 0) hx hb dX5_arrivalsOfNextDay_35 (by decide) ?_
    refine lv_istore_n (lv' := [(2, .int 0), (1, .int (k1.1 3 0)), (0, .ref S0)]) hx hb dX5_arrivalsOfNextDay_36 rfl hl (by decide) rfl (fun ls hl => ?_)
    refine lv_iconst (v := 0) hx hb dX5_arrivalsOfNextDay_37 (by decide) ?_
    refine lv_istore_n (lv' := [(3, .int 0), (2, .int 0), (1, .int (k1.1 3 0)), (0, .ref S0)]) hx hb dX5_arrivalsOfNextDay_38 rfl hl (by decide) rfl (fun ls hl => ?_)
    have lp39 : ∀ (f8 : Nat) (x3 : Int32) (x4 : Int32) (x5 : Int32) (n7 : Nat) (k6 : kS) (H : Heap) (locs : List Loc) (ls : Array Slot), wX5_arrivalsOfNextDay_l39 S0 B Q f8 x3 x4 x5 n7 k6 → zW D S0 (xR D S0 g k0 k6) s.heap H locs → lv_has ls 5 [(3, .int x3), (2, .int x4), (1, .int x5), (0, .ref S0)] → W p l e { frames := 6, cells := B, slots := 8 * (B), locals := 138 } s m args below meth c H locs (n7) (8 * (n7)) (MQ below (va_Qi Q (zB D S0 (fun u => xR D S0 g k0 u)) (zA S0)) args s (B) (8 * (B)) (zA S0)) (F0 m 39 ls []) := by
      intro f8
      induction f8 with
      | zero => intro x3 x4 x5 n7 k6 H locs ls h; exact h.elim
      | succ f8 ih39 =>
        intro x3 x4 x5 n7 k6 H locs ls h  hW hl
        unfold wX5_arrivalsOfNextDay_l39 at h
        obtain ⟨hb_n7, h⟩ := h
        refine lv_iload_n hx hb dX5_arrivalsOfNextDay_39 rfl (lv_at hl 0 rfl) ?_
        refine lv_iload_n hx hb dX5_arrivalsOfNextDay_40 rfl (lv_at hl 2 rfl) ?_
        refine lv_icmp_ge (tgt := 80) hx hb dX5_arrivalsOfNextDay_41 (by decide) (fun c_9 => ?_) (fun c_9 => ?_)
        · replace h := h.1 c_9
          refine lv_iload_n hx hb dX5_arrivalsOfNextDay_80 rfl (lv_at hl 1 rfl) ?_
          refine W.widen (k := B) (n := 8 * (B)) (by omega) (by omega) ?_
          exact (z_iret hx hb hr hlocks hW h dX5_arrivalsOfNextDay_81)
        · replace h := h.2 c_9
          refine lv_aload_n hx hb dX5_arrivalsOfNextDay_44 rfl (lv_at hl 3 rfl) ?_
          refine zw_get (C := RX5) (T := TX5) (N := 7) hx hb hts hin5 hown hE.1 hW xC_U rfl 2 (by decide) (hts (.fieldLink RX5 26 "UnionList" "post" "LUnionList$Post;") (by decide +kernel)) (fun _ h9 => h9) rfl dX5_arrivalsOfNextDay_45 ?_
          refine lv_aload_n hx hb dX5_arrivalsOfNextDay_48 rfl (lv_at hl 3 rfl) ?_
          refine zw_get (C := RX5) (T := TX5) (N := 7) hx hb hts hin5 hown hE.1 hW xC_U rfl 6 (by decide) (hts (.fieldLink RX5 44 "UnionList" "day" "I") (by decide +kernel)) (fun _ h9 => h9) rfl dX5_arrivalsOfNextDay_49 ?_
          have hle := xW_kle hW
          refine zc_q (va_runV (As := [.int (k6.1 2 0)]) (rest := []) ⟨hx, hb, hml, hown, hts⟩ (cX2_takeArrived_ok l hlt D S0 g k6 (k6.1 2 0) _ h) (cwV 1 hts gX5_arrivalsOfNextDay_X2_takeArrived rfl rfl rfl (by decide +kernel) ⟨Nat.le_of_ble_eq_true rfl, Nat.le_of_ble_eq_true rfl⟩) (zpreV (q := (RX2, TX2, 2)) hE hs (xW_start hW) xC_P rfl) rfl rfl hl.1 rfl (lv_room (Nat.le_of_ble_eq_true rfl)) dX5_arrivalsOfNextDay_52 ⟨by show _ ≤ B; omega, by show _ ≤ 8 * (B); omega⟩) hW (fun r10 k11 H locs h hW => ?_)
          replace hW := hW.mono (xR_tr hle)
          refine W.widen (k := n7) (n := 8 * (n7)) (by omega) (by omega) ?_
          obtain ⟨h, hk_12⟩ := h
          rcases eo_14 : r10 with _ | o13
          · replace h := h.1 eo_14
            refine lv_astoreN (lv' := [(4, .null), (3, .int x3), (2, .int x4), (1, .int x5), (0, .ref S0)]) hx hb dX5_arrivalsOfNextDay_55 hl (by decide) rfl (fun ls hl => ?_)
            refine lv_aloadN hx hb dX5_arrivalsOfNextDay_57 (lv_at hl 0 rfl) ?_
            refine lv_ifnonnullN hx hb dX5_arrivalsOfNextDay_59 ?_
            refine lv_goto (tgt := 80) hx hb dX5_arrivalsOfNextDay_62 (by decide) ?_
            refine lv_iload_n hx hb dX5_arrivalsOfNextDay_80 rfl (lv_at hl 2 rfl) ?_
            refine W.widen (k := B) (n := 8 * (B)) (by omega) (by omega) ?_
            exact (z_iret hx hb hr hlocks hW h dX5_arrivalsOfNextDay_81)
          · replace h := h.2 o13 eo_14
            have hc_15 : k11.2.2 o13 = 4 := hk_12 o13 eo_14
            refine lv_astore (lv' := [(4, .ref o13), (3, .int x3), (2, .int x4), (1, .int x5), (0, .ref S0)]) hx hb dX5_arrivalsOfNextDay_55 hl (by decide) rfl (fun ls hl => ?_)
            refine lv_aload hx hb dX5_arrivalsOfNextDay_57 (lv_at hl 0 rfl) ?_
            refine lv_ifnonnull (tgt := 65) hx hb dX5_arrivalsOfNextDay_59 (by decide) ?_
            refine lv_aload_n hx hb dX5_arrivalsOfNextDay_65 rfl (lv_at hl 4 rfl) ?_
            refine lv_aload hx hb dX5_arrivalsOfNextDay_66 (lv_at hl 0 rfl) ?_
            obtain ⟨b16, hb_17, h⟩ := h
            have hle := xW_kle hW
            refine zc_v (va_runV (As := [.ref o13]) (rest := []) ⟨hx, hb, hml, hown, hts⟩ (cX5_deliver_ok l hlt D S0 g b16 k11 o13 hc_15 _ h) (cwV 1 hts gX5_arrivalsOfNextDay_X5_deliver rfl rfl rfl (by decide +kernel) ⟨Nat.le_of_ble_eq_true rfl, Nat.le_of_ble_eq_true rfl⟩) (zpreV (q := (RX5, TX5, 7)) hE hs (xW_start hW) xC_U rfl) rfl rfl hl.1 rfl (lv_room (Nat.le_of_ble_eq_true rfl)) dX5_arrivalsOfNextDay_68 ⟨by show _ ≤ B; omega, by show _ ≤ 8 * (B); omega⟩) hW (fun k19 H locs h hW => ?_)
            replace hc_15 := kle_4 (xW_kle hW) hc_15
            replace hW := hW.mono (xR_tr hle)
            refine W.widen (k := n7 + b16) (n := 8 * (n7 + b16)) (by omega) (by omega) ?_
            refine lv_iinc (v := (x4 + 1)) (lv' := [(2, .int (x4 + 1)), (4, .ref o13), (3, .int x3), (1, .int x5), (0, .ref S0)]) hx hb dX5_arrivalsOfNextDay_71 hl (k := 2) rfl rfl (by decide) rfl (fun ls hl => ?_)
            refine lv_iinc (v := (x3 + 1)) (lv' := [(3, .int (x3 + 1)), (2, .int (x4 + 1)), (4, .ref o13), (1, .int x5), (0, .ref S0)]) hx hb dX5_arrivalsOfNextDay_74 hl (k := 2) rfl rfl (by decide) rfl (fun ls hl => ?_)
            refine lv_goto (tgt := 39) hx hb dX5_arrivalsOfNextDay_77 (by decide) ?_
            exact ih39 (x3 + 1) (x4 + 1) x5 (n7 + b16) k19 _ _ _ h  hW (lv_sub hl [0, 1, 3, 4] rfl)
    obtain ⟨f20, h⟩ := h
    exact lp39 f20 0 0 (k1.1 3 0) 0 k1 _ _ _ h  hW (lv_sub hl [0, 1, 2, 3] rfl)
  · replace h := h.1 c_2
    refine lv_aload_n hx hb dX5_arrivalsOfNextDay_20 rfl (lv_at hl 0 rfl) ?_
    refine zw_get (C := RX5) (T := TX5) (N := 7) hx hb hts hin5 hown hE.1 hW xC_U rfl 3 (by decide) (hts (.fieldLink RX5 33 "UnionList" "accounts" "LUnionList$Accounts;") (by decide +kernel)) (fun _ h9 => h9) rfl dX5_arrivalsOfNextDay_21 ?_
    have hle := xW_kle hW
    refine zc_v (va_runV (As := []) (rest := []) ⟨hx, hb, hml, hown, hts⟩ (cX0_beginQuarter_ok l hlt D S0 g k1 _ h) (cwV 0 hts gX5_arrivalsOfNextDay_X0_beginQuarter rfl rfl rfl (by decide +kernel) ⟨Nat.le_of_ble_eq_true rfl, Nat.le_of_ble_eq_true rfl⟩) (zpreV (q := (RX0, TX0, 3)) hE hs (xW_start hW) xC_A rfl) rfl rfl hl.1 rfl (lv_room (Nat.le_of_ble_eq_true rfl)) dX5_arrivalsOfNextDay_24 ⟨by show _ ≤ B; omega, by show _ ≤ 8 * (B); omega⟩) hW (fun k22 H locs h hW => ?_)
    replace hW := hW.mono (xR_tr hle)
    refine W.widen (k := 0) (n := 8 * (0)) (by omega) (by omega) ?_
    refine lv_aload_n hx hb dX5_arrivalsOfNextDay_27 rfl (lv_at hl 0 rfl) ?_
    refine zw_get (C := RX5) (T := TX5) (N := 7) hx hb hts hin5 hown hE.1 hW xC_U rfl 2 (by decide) (hts (.fieldLink RX5 26 "UnionList" "post" "LUnionList$Post;") (by decide +kernel)) (fun _ h9 => h9) rfl dX5_arrivalsOfNextDay_28 ?_
    refine zw_get (C := RX2) (T := TX2) (N := 2) hx hb hts hin2 hown hE.1 hW xC_P rfl 1 (by decide) (hts (.fieldLink RX5 218 "UnionList$Post" "size" "I") (by decide +kernel)) (fun _ h9 => h9) rfl dX5_arrivalsOfNextDay_31 ?_
    refine lv_istore_n (lv' := [(1, .int (k22.1 3 0)), (0, .ref S0)]) hx hb dX5_arrivalsOfNextDay_34 rfl hl (by decide) rfl (fun ls hl => ?_)
    refine lv_iconst (v := 0) hx hb dX5_arrivalsOfNextDay_35 (by decide) ?_
    refine lv_istore_n (lv' := [(2, .int 0), (1, .int (k22.1 3 0)), (0, .ref S0)]) hx hb dX5_arrivalsOfNextDay_36 rfl hl (by decide) rfl (fun ls hl => ?_)
    refine lv_iconst (v := 0) hx hb dX5_arrivalsOfNextDay_37 (by decide) ?_
    refine lv_istore_n (lv' := [(3, .int 0), (2, .int 0), (1, .int (k22.1 3 0)), (0, .ref S0)]) hx hb dX5_arrivalsOfNextDay_38 rfl hl (by decide) rfl (fun ls hl => ?_)
    have lp39 : ∀ (f28 : Nat) (x23 : Int32) (x24 : Int32) (x25 : Int32) (n27 : Nat) (k26 : kS) (H : Heap) (locs : List Loc) (ls : Array Slot), wX5_arrivalsOfNextDay_l39 S0 B Q f28 x23 x24 x25 n27 k26 → zW D S0 (xR D S0 g k0 k26) s.heap H locs → lv_has ls 5 [(3, .int x23), (2, .int x24), (1, .int x25), (0, .ref S0)] → W p l e { frames := 6, cells := B, slots := 8 * (B), locals := 138 } s m args below meth c H locs (n27) (8 * (n27)) (MQ below (va_Qi Q (zB D S0 (fun u => xR D S0 g k0 u)) (zA S0)) args s (B) (8 * (B)) (zA S0)) (F0 m 39 ls []) := by
      intro f28
      induction f28 with
      | zero => intro x23 x24 x25 n27 k26 H locs ls h; exact h.elim
      | succ f28 ih39 =>
        intro x23 x24 x25 n27 k26 H locs ls h  hW hl
        unfold wX5_arrivalsOfNextDay_l39 at h
        obtain ⟨hb_n27, h⟩ := h
        refine lv_iload_n hx hb dX5_arrivalsOfNextDay_39 rfl (lv_at hl 0 rfl) ?_
        refine lv_iload_n hx hb dX5_arrivalsOfNextDay_40 rfl (lv_at hl 2 rfl) ?_
        refine lv_icmp_ge (tgt := 80) hx hb dX5_arrivalsOfNextDay_41 (by decide) (fun c_29 => ?_) (fun c_29 => ?_)
        · replace h := h.1 c_29
          refine lv_iload_n hx hb dX5_arrivalsOfNextDay_80 rfl (lv_at hl 1 rfl) ?_
          refine W.widen (k := B) (n := 8 * (B)) (by omega) (by omega) ?_
          exact (z_iret hx hb hr hlocks hW h dX5_arrivalsOfNextDay_81)
        · replace h := h.2 c_29
          refine lv_aload_n hx hb dX5_arrivalsOfNextDay_44 rfl (lv_at hl 3 rfl) ?_
          refine zw_get (C := RX5) (T := TX5) (N := 7) hx hb hts hin5 hown hE.1 hW xC_U rfl 2 (by decide) (hts (.fieldLink RX5 26 "UnionList" "post" "LUnionList$Post;") (by decide +kernel)) (fun _ h9 => h9) rfl dX5_arrivalsOfNextDay_45 ?_
          refine lv_aload_n hx hb dX5_arrivalsOfNextDay_48 rfl (lv_at hl 3 rfl) ?_
          refine zw_get (C := RX5) (T := TX5) (N := 7) hx hb hts hin5 hown hE.1 hW xC_U rfl 6 (by decide) (hts (.fieldLink RX5 44 "UnionList" "day" "I") (by decide +kernel)) (fun _ h9 => h9) rfl dX5_arrivalsOfNextDay_49 ?_
          have hle := xW_kle hW
          refine zc_q (va_runV (As := [.int (k26.1 2 0)]) (rest := []) ⟨hx, hb, hml, hown, hts⟩ (cX2_takeArrived_ok l hlt D S0 g k26 (k26.1 2 0) _ h) (cwV 1 hts gX5_arrivalsOfNextDay_X2_takeArrived rfl rfl rfl (by decide +kernel) ⟨Nat.le_of_ble_eq_true rfl, Nat.le_of_ble_eq_true rfl⟩) (zpreV (q := (RX2, TX2, 2)) hE hs (xW_start hW) xC_P rfl) rfl rfl hl.1 rfl (lv_room (Nat.le_of_ble_eq_true rfl)) dX5_arrivalsOfNextDay_52 ⟨by show _ ≤ B; omega, by show _ ≤ 8 * (B); omega⟩) hW (fun r30 k31 H locs h hW => ?_)
          replace hW := hW.mono (xR_tr hle)
          refine W.widen (k := n27) (n := 8 * (n27)) (by omega) (by omega) ?_
          obtain ⟨h, hk_32⟩ := h
          rcases eo_34 : r30 with _ | o33
          · replace h := h.1 eo_34
            refine lv_astoreN (lv' := [(4, .null), (3, .int x23), (2, .int x24), (1, .int x25), (0, .ref S0)]) hx hb dX5_arrivalsOfNextDay_55 hl (by decide) rfl (fun ls hl => ?_)
            refine lv_aloadN hx hb dX5_arrivalsOfNextDay_57 (lv_at hl 0 rfl) ?_
            refine lv_ifnonnullN hx hb dX5_arrivalsOfNextDay_59 ?_
            refine lv_goto (tgt := 80) hx hb dX5_arrivalsOfNextDay_62 (by decide) ?_
            refine lv_iload_n hx hb dX5_arrivalsOfNextDay_80 rfl (lv_at hl 2 rfl) ?_
            refine W.widen (k := B) (n := 8 * (B)) (by omega) (by omega) ?_
            exact (z_iret hx hb hr hlocks hW h dX5_arrivalsOfNextDay_81)
          · replace h := h.2 o33 eo_34
            have hc_35 : k31.2.2 o33 = 4 := hk_32 o33 eo_34
            refine lv_astore (lv' := [(4, .ref o33), (3, .int x23), (2, .int x24), (1, .int x25), (0, .ref S0)]) hx hb dX5_arrivalsOfNextDay_55 hl (by decide) rfl (fun ls hl => ?_)
            refine lv_aload hx hb dX5_arrivalsOfNextDay_57 (lv_at hl 0 rfl) ?_
            refine lv_ifnonnull (tgt := 65) hx hb dX5_arrivalsOfNextDay_59 (by decide) ?_
            refine lv_aload_n hx hb dX5_arrivalsOfNextDay_65 rfl (lv_at hl 4 rfl) ?_
            refine lv_aload hx hb dX5_arrivalsOfNextDay_66 (lv_at hl 0 rfl) ?_
            obtain ⟨b36, hb_37, h⟩ := h
            have hle := xW_kle hW
            refine zc_v (va_runV (As := [.ref o33]) (rest := []) ⟨hx, hb, hml, hown, hts⟩ (cX5_deliver_ok l hlt D S0 g b36 k31 o33 hc_35 _ h) (cwV 1 hts gX5_arrivalsOfNextDay_X5_deliver rfl rfl rfl (by decide +kernel) ⟨Nat.le_of_ble_eq_true rfl, Nat.le_of_ble_eq_true rfl⟩) (zpreV (q := (RX5, TX5, 7)) hE hs (xW_start hW) xC_U rfl) rfl rfl hl.1 rfl (lv_room (Nat.le_of_ble_eq_true rfl)) dX5_arrivalsOfNextDay_68 ⟨by show _ ≤ B; omega, by show _ ≤ 8 * (B); omega⟩) hW (fun k39 H locs h hW => ?_)
            replace hc_35 := kle_4 (xW_kle hW) hc_35
            replace hW := hW.mono (xR_tr hle)
            refine W.widen (k := n27 + b36) (n := 8 * (n27 + b36)) (by omega) (by omega) ?_
            refine lv_iinc (v := (x24 + 1)) (lv' := [(2, .int (x24 + 1)), (4, .ref o33), (3, .int x23), (1, .int x25), (0, .ref S0)]) hx hb dX5_arrivalsOfNextDay_71 hl (k := 2) rfl rfl (by decide) rfl (fun ls hl => ?_)
            refine lv_iinc (v := (x23 + 1)) (lv' := [(3, .int (x23 + 1)), (2, .int (x24 + 1)), (4, .ref o33), (1, .int x25), (0, .ref S0)]) hx hb dX5_arrivalsOfNextDay_74 hl (k := 2) rfl rfl (by decide) rfl (fun ls hl => ?_)
            refine lv_goto (tgt := 39) hx hb dX5_arrivalsOfNextDay_77 (by decide) ?_
            exact ih39 (x23 + 1) (x24 + 1) x25 (n27 + b36) k39 _ _ _ h  hW (lv_sub hl [0, 1, 3, 4] rfl)
    obtain ⟨f40, h⟩ := h
    exact lp39 f40 0 0 (k22.1 3 0) 0 k22 _ _ _ h  hW (lv_sub hl [0, 1, 2, 3] rfl)
