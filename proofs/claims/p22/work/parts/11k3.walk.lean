def wX2_put_l29 (S0 : Nat) (c1 : Nat) (Q : kS → Prop) : Nat → Int32 → kS → Prop
  | 0, _, _ => False
  | f5 + 1, x3, k4 => ((x3 ≤ 0 → (vp_in x3 552 ∧ (∀ k8 : kS, k8 = kptr k4 2 x3.toNatClampNeg (some c1) → (∀ k9 : kS, k9 = kset k8 3 0 ((k8.1 3 0) + 1) → Q k9)))) ∧ (¬ x3 ≤ 0 → (vp_in (x3 - 1) 552 ∧ (((k4.2.1 2 (x3 - 1).toNatClampNeg) = none → (vp_in x3 552 ∧ (∀ k15 : kS, k15 = kptr k4 2 x3.toNatClampNeg (some c1) → (∀ k16 : kS, k16 = kset k15 3 0 ((k15.1 3 0) + 1) → Q k16)))) ∧ (∀ o11 : Nat, (k4.2.1 2 (x3 - 1).toNatClampNeg) = some o11 → (((k4.1 31 c1) < (k4.1 31 o11) → (vp_in x3 552 ∧ (∀ k19 : kS, k19 = kptr k4 2 x3.toNatClampNeg (some o11) → (wX2_put_l29 S0 c1 Q f5 (x3 + (-1)) k19)))) ∧ (¬ (k4.1 31 c1) < (k4.1 31 o11) → (vp_in x3 552 ∧ (∀ k21 : kS, k21 = kptr k4 2 x3.toNatClampNeg (some c1) → (∀ k22 : kS, k22 = kset k21 3 0 ((k21.1 3 0) + 1) → Q k22))))))))))
def wX2_put (S0 : Nat) (k0 : kS) (c1 : Nat) (Q : kS → Prop) : Prop := (((k0.1 3 0) < 0 → Q k0) ∧ (¬ (k0.1 3 0) < 0 → (((k0.1 3 0) < 552 → (∃ f23 : Nat, wX2_put_l29 S0 c1 Q f23 (k0.1 3 0) k0)) ∧ (¬ (k0.1 3 0) < 552 → Q k0))))
theorem hin_X2_put_2 : ∀ w ∈ u_ws RX2 TX2 2, w ∈ wsX2_put := by decide +kernel
theorem hin_X2_put_4 : ∀ w ∈ u_ws RX4 TX4 4, w ∈ wsX2_put := by decide +kernel
set_option maxHeartbeats 8000000 in
set_option maxRecDepth 100000 in
theorem cX2_put_ok (l : Launch) (hlt : l.stackTraces = false) (D : zD) (S0 : Nat) (g : zF) (k0 : kS) (c1 : Nat) (hc1 : k0.2.2 c1 = 4) (Q : kS → Prop) (h : wX2_put S0 k0 c1 Q) : Met l yX2_put wsX2_put { frames := 0, cells := 0, slots := 8 * (0), locals := 0 } (zPc D S0 (xR D S0 g k0 k0) [.ref (S0 + 3), .ref c1]) (va_Qv Q (zB D S0 (fun u => xR D S0 g k0 u)) (zA S0)) (0) (8 * (0)) (zA S0) := by
  refine zMet (cc := cX2_put) (maxL := 4) (ret := none) (by decide) rfl (Nat.le_of_ble_eq_true rfl) (fun p e s m args below meth c ls hx hb hr hml hown hts hlocks hnm hs hE hW hl => ?_)
  have hsz := xW_sz hW
  have hs0 : S0 ≤ s.heap.size := hs
  have hin2 := hin_X2_put_2
  have hin4 := hin_X2_put_4
  replace hl : lv_has ls 4 [(0, .ref (S0 + 3)), (1, .ref c1)] := hl
  unfold wX2_put at h
  refine lv_aload_n hx hb dX2_put_0 rfl (lv_at hl 1 rfl) ?_
  refine lv_ifnull hx hb dX2_put_1 ?_
  refine lv_aload_n hx hb dX2_put_4 rfl (lv_at hl 0 rfl) ?_
  refine zw_get (C := RX2) (T := TX2) (N := 2) hx hb hts hin2 hown hE.1 hW xC_P rfl 1 (by decide) (hts (.fieldLink RX2 21 "UnionList$Post" "size" "I") (by decide +kernel)) (fun _ h9 => h9) rfl dX2_put_5 ?_
  refine lv_if_lt (tgt := 23) hx hb dX2_put_8 (by decide) (fun c_1 => ?_) (fun c_1 => ?_)
  · replace h := h.1 c_1
    refine W.widen (k := 0) (n := 8 * (0)) (by omega) (by omega) ?_
    exact (z_vret hx hb hr hlocks hW h dX2_put_23)
  · replace h := h.2 c_1
    refine lv_aload_n hx hb dX2_put_11 rfl (lv_at hl 0 rfl) ?_
    refine zw_get (C := RX2) (T := TX2) (N := 2) hx hb hts hin2 hown hE.1 hW xC_P rfl 1 (by decide) (hts (.fieldLink RX2 21 "UnionList$Post" "size" "I") (by decide +kernel)) (fun _ h9 => h9) rfl dX2_put_12 ?_
    refine lv_aload_n hx hb dX2_put_15 rfl (lv_at hl 0 rfl) ?_
    refine zw_get (C := RX2) (T := TX2) (N := 2) hx hb hts hin2 hown hE.1 hW xC_P rfl 0 (by decide) (hts (.fieldLink RX2 15 "UnionList$Post" "waiting" "[LUnionList$Sent;") (by decide +kernel)) (fun _ h9 => h9) rfl dX2_put_16 ?_
    refine zw_alen (v := 552) hx hb hE.1 hW 3 rfl xC_q2 rfl dX2_put_19 ?_
    refine lv_icmp_lt (tgt := 24) hx hb dX2_put_20 (by decide) (fun c_2 => ?_) (fun c_2 => ?_)
    · replace h := h.1 c_2
      refine lv_aload_n hx hb dX2_put_24 rfl (lv_at hl 0 rfl) ?_
      refine zw_get (C := RX2) (T := TX2) (N := 2) hx hb hts hin2 hown hE.1 hW xC_P rfl 1 (by decide) (hts (.fieldLink RX2 21 "UnionList$Post" "size" "I") (by decide +kernel)) (fun _ h9 => h9) rfl dX2_put_25 ?_
      refine lv_istore_n (lv' := [(2, .int (k0.1 3 0)), (0, .ref (S0 + 3)), (1, .ref c1)]) hx hb dX2_put_28 rfl hl (by decide) rfl (fun ls hl => ?_)
      have lp29 : ∀ (f5 : Nat) (x3 : Int32) (k4 : kS) (H : Heap) (locs : List Loc) (ls : Array Slot), wX2_put_l29 S0 c1 Q f5 x3 k4 → k4.2.2 c1 = 4 → zW D S0 (xR D S0 g k0 k4) s.heap H locs → lv_has ls 4 [(2, .int x3), (0, .ref (S0 + 3)), (1, .ref c1)] → W p l e { frames := 0, cells := 0, slots := 8 * (0), locals := 0 } s m args below meth c H locs (0) (8 * (0)) (MQ below (va_Qv Q (zB D S0 (fun u => xR D S0 g k0 u)) (zA S0)) args s (0) (8 * (0)) (zA S0)) (F0 m 29 ls []) := by
        intro f5
        induction f5 with
        | zero => intro x3 k4 H locs ls h; exact h.elim
        | succ f5 ih29 =>
          intro x3 k4 H locs ls h hc1 hW hl
          unfold wX2_put_l29 at h
          refine lv_iload_n hx hb dX2_put_29 rfl (lv_at hl 0 rfl) ?_
          refine lv_if_le (tgt := 73) hx hb dX2_put_30 (by decide) (fun c_6 => ?_) (fun c_6 => ?_)
          · replace h := h.1 c_6
            refine lv_aload_n hx hb dX2_put_73 rfl (lv_at hl 1 rfl) ?_
            refine zw_get (C := RX2) (T := TX2) (N := 2) hx hb hts hin2 hown hE.1 hW xC_P rfl 0 (by decide) (hts (.fieldLink RX2 15 "UnionList$Post" "waiting" "[LUnionList$Sent;") (by decide +kernel)) (fun _ h9 => h9) rfl dX2_put_74 ?_
            refine lv_iload_n hx hb dX2_put_77 rfl (lv_at hl 0 rfl) ?_
            refine lv_aload_n hx hb dX2_put_78 rfl (lv_at hl 2 rfl) ?_
            obtain ⟨hb_7, h⟩ := h
            refine zw_astq (r := (RX4, TX4, 4)) hx hb hE.1 hW 3 rfl xC_q2 (xC_S hc1) rfl hb_7 dX2_put_79 (xP_q2 (fun _ h9 => by cases h9; exact hc1)) (fun H locs hW => ?_)
            obtain ⟨k8, ek8⟩ : ∃ y, y = kptr k4 2 x3.toNatClampNeg (some c1) := ⟨_, rfl⟩
            rw [← ek8] at hW
            replace h := h k8 ek8
            replace hc1 : k8.2.2 c1 = 4 := by rw [ek8]; exact hc1
            refine lv_aload_n hx hb dX2_put_80 rfl (lv_at hl 1 rfl) ?_
            refine lv_dup hx hb dX2_put_81 rfl ?_
            refine zw_get (C := RX2) (T := TX2) (N := 2) hx hb hts hin2 hown hE.1 hW xC_P rfl 1 (by decide) (hts (.fieldLink RX2 21 "UnionList$Post" "size" "I") (by decide +kernel)) (fun _ h9 => h9) rfl dX2_put_82 ?_
            refine lv_iconst (v := 1) hx hb dX2_put_85 (by decide) ?_
            refine lv_iadd hx hb dX2_put_86 ?_
            refine zw_put (C := RX2) (T := TX2) (N := 2) hx hb hts hin2 tyX2 tyX2_ok nmX2 hown hE.1 hW xC_P rfl 1 (by decide) (hts (.fieldLink RX2 21 "UnionList$Post" "size" "I") (by decide +kernel)) (fun _ h9 => h9) rfl rfl rfl (Nat.le_of_ble_eq_true rfl) dX2_put_87 xP_P1 (fun H locs hW => ?_)
            obtain ⟨k9, ek9⟩ : ∃ y, y = kset k8 3 0 ((k8.1 3 0) + 1) := ⟨_, rfl⟩
            rw [← ek9] at hW
            replace h := h k9 ek9
            replace hc1 : k9.2.2 c1 = 4 := by rw [ek9]; exact hc1
            refine W.widen (k := 0) (n := 8 * (0)) (by omega) (by omega) ?_
            exact (z_vret hx hb hr hlocks hW h dX2_put_90)
          · replace h := h.2 c_6
            refine lv_aload_n hx hb dX2_put_33 rfl (lv_at hl 1 rfl) ?_
            refine zw_get (C := RX2) (T := TX2) (N := 2) hx hb hts hin2 hown hE.1 hW xC_P rfl 0 (by decide) (hts (.fieldLink RX2 15 "UnionList$Post" "waiting" "[LUnionList$Sent;") (by decide +kernel)) (fun _ h9 => h9) rfl dX2_put_34 ?_
            refine lv_iload_n hx hb dX2_put_37 rfl (lv_at hl 0 rfl) ?_
            refine lv_iconst (v := 1) hx hb dX2_put_38 (by decide) ?_
            refine lv_isub hx hb dX2_put_39 ?_
            obtain ⟨hb_10, h⟩ := h
            refine zw_aldq hx hb hE.1 hW 3 rfl xC_q2 hb_10 dX2_put_40 ?_
            rcases eo_12 : (k4.2.1 2 (x3 - 1).toNatClampNeg) with _ | o11
            · replace h := h.1 eo_12
              refine lv_astore_nN (lv' := [(3, .null), (2, .int x3), (0, .ref (S0 + 3)), (1, .ref c1)]) hx hb dX2_put_41 rfl hl (by decide) rfl (fun ls hl => ?_)
              refine lv_aload_nN hx hb dX2_put_42 rfl (lv_at hl 0 rfl) ?_
              refine lv_ifnullN (tgt := 73) hx hb dX2_put_43 (by decide) ?_
              refine lv_aload_n hx hb dX2_put_73 rfl (lv_at hl 2 rfl) ?_
              refine zw_get (C := RX2) (T := TX2) (N := 2) hx hb hts hin2 hown hE.1 hW xC_P rfl 0 (by decide) (hts (.fieldLink RX2 15 "UnionList$Post" "waiting" "[LUnionList$Sent;") (by decide +kernel)) (fun _ h9 => h9) rfl dX2_put_74 ?_
              refine lv_iload_n hx hb dX2_put_77 rfl (lv_at hl 1 rfl) ?_
              refine lv_aload_n hx hb dX2_put_78 rfl (lv_at hl 3 rfl) ?_
              obtain ⟨hb_14, h⟩ := h
              refine zw_astq (r := (RX4, TX4, 4)) hx hb hE.1 hW 3 rfl xC_q2 (xC_S hc1) rfl hb_14 dX2_put_79 (xP_q2 (fun _ h9 => by cases h9; exact hc1)) (fun H locs hW => ?_)
              obtain ⟨k15, ek15⟩ : ∃ y, y = kptr k4 2 x3.toNatClampNeg (some c1) := ⟨_, rfl⟩
              rw [← ek15] at hW
              replace h := h k15 ek15
              replace hc1 : k15.2.2 c1 = 4 := by rw [ek15]; exact hc1
              refine lv_aload_n hx hb dX2_put_80 rfl (lv_at hl 2 rfl) ?_
              refine lv_dup hx hb dX2_put_81 rfl ?_
              refine zw_get (C := RX2) (T := TX2) (N := 2) hx hb hts hin2 hown hE.1 hW xC_P rfl 1 (by decide) (hts (.fieldLink RX2 21 "UnionList$Post" "size" "I") (by decide +kernel)) (fun _ h9 => h9) rfl dX2_put_82 ?_
              refine lv_iconst (v := 1) hx hb dX2_put_85 (by decide) ?_
              refine lv_iadd hx hb dX2_put_86 ?_
              refine zw_put (C := RX2) (T := TX2) (N := 2) hx hb hts hin2 tyX2 tyX2_ok nmX2 hown hE.1 hW xC_P rfl 1 (by decide) (hts (.fieldLink RX2 21 "UnionList$Post" "size" "I") (by decide +kernel)) (fun _ h9 => h9) rfl rfl rfl (Nat.le_of_ble_eq_true rfl) dX2_put_87 xP_P1 (fun H locs hW => ?_)
              obtain ⟨k16, ek16⟩ : ∃ y, y = kset k15 3 0 ((k15.1 3 0) + 1) := ⟨_, rfl⟩
              rw [← ek16] at hW
              replace h := h k16 ek16
              replace hc1 : k16.2.2 c1 = 4 := by rw [ek16]; exact hc1
              refine W.widen (k := 0) (n := 8 * (0)) (by omega) (by omega) ?_
              exact (z_vret hx hb hr hlocks hW h dX2_put_90)
            · replace h := h.2 o11 eo_12
              have hc_13 : k4.2.2 o11 = 4 := (xW_T hW).2.2.1 _ _ eo_12
              refine lv_astore_n (lv' := [(3, .ref o11), (2, .int x3), (0, .ref (S0 + 3)), (1, .ref c1)]) hx hb dX2_put_41 rfl hl (by decide) rfl (fun ls hl => ?_)
              refine lv_aload_n hx hb dX2_put_42 rfl (lv_at hl 0 rfl) ?_
              refine lv_ifnull hx hb dX2_put_43 ?_
              refine lv_aload_n hx hb dX2_put_46 rfl (lv_at hl 0 rfl) ?_
              refine zw_get (C := RX4) (T := TX4) (N := 4) hx hb hts hin4 hown hE.1 hW (xC_S hc_13) rfl 1 (by decide) (hts (.fieldLink RX2 25 "UnionList$Sent" "arrival" "I") (by decide +kernel)) (fun _ h9 => h9) rfl dX2_put_47 ?_
              refine lv_aload_n hx hb dX2_put_50 rfl (lv_at hl 3 rfl) ?_
              refine zw_get (C := RX4) (T := TX4) (N := 4) hx hb hts hin4 hown hE.1 hW (xC_S hc1) rfl 1 (by decide) (hts (.fieldLink RX2 25 "UnionList$Sent" "arrival" "I") (by decide +kernel)) (fun _ h9 => h9) rfl dX2_put_51 ?_
              refine lv_icmp_gt (tgt := 60) hx hb dX2_put_54 (by decide) (fun c_17 => ?_) (fun c_17 => ?_)
              · replace h := h.1 c_17
                refine lv_aload_n hx hb dX2_put_60 rfl (lv_at hl 2 rfl) ?_
                refine zw_get (C := RX2) (T := TX2) (N := 2) hx hb hts hin2 hown hE.1 hW xC_P rfl 0 (by decide) (hts (.fieldLink RX2 15 "UnionList$Post" "waiting" "[LUnionList$Sent;") (by decide +kernel)) (fun _ h9 => h9) rfl dX2_put_61 ?_
                refine lv_iload_n hx hb dX2_put_64 rfl (lv_at hl 1 rfl) ?_
                refine lv_aload_n hx hb dX2_put_65 rfl (lv_at hl 0 rfl) ?_
                obtain ⟨hb_18, h⟩ := h
                refine zw_astq (r := (RX4, TX4, 4)) hx hb hE.1 hW 3 rfl xC_q2 (xC_S hc_13) rfl hb_18 dX2_put_66 (xP_q2 (fun _ h9 => by cases h9; exact hc_13)) (fun H locs hW => ?_)
                obtain ⟨k19, ek19⟩ : ∃ y, y = kptr k4 2 x3.toNatClampNeg (some o11) := ⟨_, rfl⟩
                rw [← ek19] at hW
                replace h := h k19 ek19
                replace hc1 : k19.2.2 c1 = 4 := by rw [ek19]; exact hc1
                replace hc_13 : k19.2.2 o11 = 4 := by rw [ek19]; exact hc_13
                refine lv_iinc (v := (x3 + (-1))) (lv' := [(2, .int (x3 + (-1))), (3, .ref o11), (0, .ref (S0 + 3)), (1, .ref c1)]) hx hb dX2_put_67 hl (k := 1) rfl rfl (by decide) rfl (fun ls hl => ?_)
                refine lv_goto (tgt := 29) hx hb dX2_put_70 (by decide) ?_
                exact ih29 (x3 + (-1)) k19 _ _ _ h hc1 hW (lv_sub hl [0, 2, 3] rfl)
              · replace h := h.2 c_17
                refine lv_goto (tgt := 73) hx hb dX2_put_57 (by decide) ?_
                refine lv_aload_n hx hb dX2_put_73 rfl (lv_at hl 2 rfl) ?_
                refine zw_get (C := RX2) (T := TX2) (N := 2) hx hb hts hin2 hown hE.1 hW xC_P rfl 0 (by decide) (hts (.fieldLink RX2 15 "UnionList$Post" "waiting" "[LUnionList$Sent;") (by decide +kernel)) (fun _ h9 => h9) rfl dX2_put_74 ?_
                refine lv_iload_n hx hb dX2_put_77 rfl (lv_at hl 1 rfl) ?_
                refine lv_aload_n hx hb dX2_put_78 rfl (lv_at hl 3 rfl) ?_
                obtain ⟨hb_20, h⟩ := h
                refine zw_astq (r := (RX4, TX4, 4)) hx hb hE.1 hW 3 rfl xC_q2 (xC_S hc1) rfl hb_20 dX2_put_79 (xP_q2 (fun _ h9 => by cases h9; exact hc1)) (fun H locs hW => ?_)
                obtain ⟨k21, ek21⟩ : ∃ y, y = kptr k4 2 x3.toNatClampNeg (some c1) := ⟨_, rfl⟩
                rw [← ek21] at hW
                replace h := h k21 ek21
                replace hc1 : k21.2.2 c1 = 4 := by rw [ek21]; exact hc1
                replace hc_13 : k21.2.2 o11 = 4 := by rw [ek21]; exact hc_13
                refine lv_aload_n hx hb dX2_put_80 rfl (lv_at hl 2 rfl) ?_
                refine lv_dup hx hb dX2_put_81 rfl ?_
                refine zw_get (C := RX2) (T := TX2) (N := 2) hx hb hts hin2 hown hE.1 hW xC_P rfl 1 (by decide) (hts (.fieldLink RX2 21 "UnionList$Post" "size" "I") (by decide +kernel)) (fun _ h9 => h9) rfl dX2_put_82 ?_
                refine lv_iconst (v := 1) hx hb dX2_put_85 (by decide) ?_
                refine lv_iadd hx hb dX2_put_86 ?_
                refine zw_put (C := RX2) (T := TX2) (N := 2) hx hb hts hin2 tyX2 tyX2_ok nmX2 hown hE.1 hW xC_P rfl 1 (by decide) (hts (.fieldLink RX2 21 "UnionList$Post" "size" "I") (by decide +kernel)) (fun _ h9 => h9) rfl rfl rfl (Nat.le_of_ble_eq_true rfl) dX2_put_87 xP_P1 (fun H locs hW => ?_)
                obtain ⟨k22, ek22⟩ : ∃ y, y = kset k21 3 0 ((k21.1 3 0) + 1) := ⟨_, rfl⟩
                rw [← ek22] at hW
                replace h := h k22 ek22
                replace hc1 : k22.2.2 c1 = 4 := by rw [ek22]; exact hc1
                replace hc_13 : k22.2.2 o11 = 4 := by rw [ek22]; exact hc_13
                refine W.widen (k := 0) (n := 8 * (0)) (by omega) (by omega) ?_
                exact (z_vret hx hb hr hlocks hW h dX2_put_90)
      obtain ⟨f23, h⟩ := h
      exact lp29 f23 (k0.1 3 0) k0 _ _ _ h hc1 hW (lv_sub hl [0, 1, 2] rfl)
    · replace h := h.2 c_2
      refine W.widen (k := 0) (n := 8 * (0)) (by omega) (by omega) ?_
      exact (z_vret hx hb hr hlocks hW h dX2_put_23)

def wX2_takeArrived_l55 (S0 : Nat) (p1 : Int32) (Q : Option Nat → kS → Prop) (o4 : Nat) : Nat → Int32 → kS → Prop
  | 0, _, _ => False
  | f11 + 1, x9, k10 => (((k10.1 3 0) ≤ x9 → (vp_in (k10.1 3 0) 552 ∧ (∀ k14 : kS, k14 = kptr k10 2 (k10.1 3 0).toNatClampNeg none → Q (some o4) k14))) ∧ (¬ (k10.1 3 0) ≤ x9 → (vp_in (x9 + 1) 552 ∧ (((k10.2.1 2 (x9 + 1).toNatClampNeg) = none → (vp_in x9 552 ∧ (∀ k20 : kS, k20 = kptr k10 2 x9.toNatClampNeg none → (wX2_takeArrived_l55 S0 p1 Q o4 f11 (x9 + 1) k20)))) ∧ (∀ o16 : Nat, (k10.2.1 2 (x9 + 1).toNatClampNeg) = some o16 → (vp_in x9 552 ∧ (∀ k22 : kS, k22 = kptr k10 2 x9.toNatClampNeg (some o16) → (wX2_takeArrived_l55 S0 p1 Q o4 f11 (x9 + 1) k22))))))))
def wX2_takeArrived (S0 : Nat) (k0 : kS) (p1 : Int32) (Q : Option Nat → kS → Prop) : Prop := (((k0.1 3 0) < 1 → Q none k0) ∧ (¬ (k0.1 3 0) < 1 → (((k0.1 3 0) ≤ 552 → (vp_in 0 552 ∧ (((k0.2.1 2 (0 : Int32).toNatClampNeg) = none → Q none k0) ∧ (∀ o4 : Nat, (k0.2.1 2 (0 : Int32).toNatClampNeg) = some o4 → (((k0.1 31 o4) ≤ p1 → (∀ k8 : kS, k8 = kset k0 3 0 ((k0.1 3 0) - 1) → (∃ f23 : Nat, wX2_takeArrived_l55 S0 p1 Q o4 f23 0 k8))) ∧ (¬ (k0.1 31 o4) ≤ p1 → Q none k0)))))) ∧ (¬ (k0.1 3 0) ≤ 552 → Q none k0))))
theorem hin_X2_takeArrived_2 : ∀ w ∈ u_ws RX2 TX2 2, w ∈ wsX2_takeArrived := by decide +kernel
theorem hin_X2_takeArrived_4 : ∀ w ∈ u_ws RX4 TX4 4, w ∈ wsX2_takeArrived := by decide +kernel
set_option maxHeartbeats 8000000 in
set_option maxRecDepth 100000 in
theorem cX2_takeArrived_ok (l : Launch) (hlt : l.stackTraces = false) (D : zD) (S0 : Nat) (g : zF) (k0 : kS) (p1 : Int32)  (Q : Option Nat → kS → Prop) (h : wX2_takeArrived S0 k0 p1 Q) : Met l yX2_takeArrived wsX2_takeArrived { frames := 0, cells := 0, slots := 8 * (0), locals := 0 } (zPc D S0 (xR D S0 g k0 k0) [.ref (S0 + 3), .int p1]) (va_Qq (fun r u => Q r u ∧ ∀ c, r = some c → u.2.2 c = 4) (zB D S0 (fun u => xR D S0 g k0 u)) (zA S0)) (0) (8 * (0)) (zA S0) := by
  refine zMet (cc := cX2_takeArrived) (maxL := 4) (ret := (some (.object "UnionList$Sent"))) (by decide) rfl (Nat.le_of_ble_eq_true rfl) (fun p e s m args below meth c ls hx hb hr hml hown hts hlocks hnm hs hE hW hl => ?_)
  have hsz := xW_sz hW
  have hs0 : S0 ≤ s.heap.size := hs
  have hin2 := hin_X2_takeArrived_2
  have hin4 := hin_X2_takeArrived_4
  replace hl : lv_has ls 4 [(0, .ref (S0 + 3)), (1, .int p1)] := hl
  unfold wX2_takeArrived at h
  refine lv_aload_n hx hb dX2_takeArrived_0 rfl (lv_at hl 0 rfl) ?_
  refine zw_get (C := RX2) (T := TX2) (N := 2) hx hb hts hin2 hown hE.1 hW xC_P rfl 1 (by decide) (hts (.fieldLink RX2 21 "UnionList$Post" "size" "I") (by decide +kernel)) (fun _ h9 => h9) rfl dX2_takeArrived_1 ?_
  refine lv_iconst (v := 1) hx hb dX2_takeArrived_4 (by decide) ?_
  refine lv_icmp_lt (tgt := 20) hx hb dX2_takeArrived_5 (by decide) (fun c_1 => ?_) (fun c_1 => ?_)
  · replace h := h.1 c_1
    refine lv_null hx hb dX2_takeArrived_20 ?_
    refine W.widen (k := 0) (n := 8 * (0)) (by omega) (by omega) ?_
    exact (z_aret none rfl hx hb hr hlocks hW ⟨h, (fun _ h9 => nomatch h9)⟩ dX2_takeArrived_21)
  · replace h := h.2 c_1
    refine lv_aload_n hx hb dX2_takeArrived_8 rfl (lv_at hl 0 rfl) ?_
    refine zw_get (C := RX2) (T := TX2) (N := 2) hx hb hts hin2 hown hE.1 hW xC_P rfl 1 (by decide) (hts (.fieldLink RX2 21 "UnionList$Post" "size" "I") (by decide +kernel)) (fun _ h9 => h9) rfl dX2_takeArrived_9 ?_
    refine lv_aload_n hx hb dX2_takeArrived_12 rfl (lv_at hl 0 rfl) ?_
    refine zw_get (C := RX2) (T := TX2) (N := 2) hx hb hts hin2 hown hE.1 hW xC_P rfl 0 (by decide) (hts (.fieldLink RX2 15 "UnionList$Post" "waiting" "[LUnionList$Sent;") (by decide +kernel)) (fun _ h9 => h9) rfl dX2_takeArrived_13 ?_
    refine zw_alen (v := 552) hx hb hE.1 hW 3 rfl xC_q2 rfl dX2_takeArrived_16 ?_
    refine lv_icmp_le (tgt := 22) hx hb dX2_takeArrived_17 (by decide) (fun c_2 => ?_) (fun c_2 => ?_)
    · replace h := h.1 c_2
      refine lv_aload_n hx hb dX2_takeArrived_22 rfl (lv_at hl 0 rfl) ?_
      refine zw_get (C := RX2) (T := TX2) (N := 2) hx hb hts hin2 hown hE.1 hW xC_P rfl 0 (by decide) (hts (.fieldLink RX2 15 "UnionList$Post" "waiting" "[LUnionList$Sent;") (by decide +kernel)) (fun _ h9 => h9) rfl dX2_takeArrived_23 ?_
      refine lv_iconst (v := 0) hx hb dX2_takeArrived_26 (by decide) ?_
      obtain ⟨hb_3, h⟩ := h
      refine zw_aldq hx hb hE.1 hW 3 rfl xC_q2 hb_3 dX2_takeArrived_27 ?_
      rcases eo_5 : (k0.2.1 2 (0 : Int32).toNatClampNeg) with _ | o4
      · replace h := h.1 eo_5
        refine lv_astore_nN (lv' := [(2, .null), (0, .ref (S0 + 3)), (1, .int p1)]) hx hb dX2_takeArrived_28 rfl hl (by decide) rfl (fun ls hl => ?_)
        refine lv_aload_nN hx hb dX2_takeArrived_29 rfl (lv_at hl 0 rfl) ?_
        refine lv_ifnullN (tgt := 41) hx hb dX2_takeArrived_30 (by decide) ?_
        refine lv_null hx hb dX2_takeArrived_41 ?_
        refine W.widen (k := 0) (n := 8 * (0)) (by omega) (by omega) ?_
        exact (z_aret none rfl hx hb hr hlocks hW ⟨h, (fun _ h9 => nomatch h9)⟩ dX2_takeArrived_42)
      · replace h := h.2 o4 eo_5
        have hc_6 : k0.2.2 o4 = 4 := (xW_T hW).2.2.1 _ _ eo_5
        refine lv_astore_n (lv' := [(2, .ref o4), (0, .ref (S0 + 3)), (1, .int p1)]) hx hb dX2_takeArrived_28 rfl hl (by decide) rfl (fun ls hl => ?_)
        refine lv_aload_n hx hb dX2_takeArrived_29 rfl (lv_at hl 0 rfl) ?_
        refine lv_ifnull hx hb dX2_takeArrived_30 ?_
        refine lv_aload_n hx hb dX2_takeArrived_33 rfl (lv_at hl 0 rfl) ?_
        refine zw_get (C := RX4) (T := TX4) (N := 4) hx hb hts hin4 hown hE.1 hW (xC_S hc_6) rfl 1 (by decide) (hts (.fieldLink RX2 25 "UnionList$Sent" "arrival" "I") (by decide +kernel)) (fun _ h9 => h9) rfl dX2_takeArrived_34 ?_
        refine lv_iload_n hx hb dX2_takeArrived_37 rfl (lv_at hl 2 rfl) ?_
        refine lv_icmp_le (tgt := 43) hx hb dX2_takeArrived_38 (by decide) (fun c_7 => ?_) (fun c_7 => ?_)
        · replace h := h.1 c_7
          refine lv_aload_n hx hb dX2_takeArrived_43 rfl (lv_at hl 1 rfl) ?_
          refine lv_dup hx hb dX2_takeArrived_44 rfl ?_
          refine zw_get (C := RX2) (T := TX2) (N := 2) hx hb hts hin2 hown hE.1 hW xC_P rfl 1 (by decide) (hts (.fieldLink RX2 21 "UnionList$Post" "size" "I") (by decide +kernel)) (fun _ h9 => h9) rfl dX2_takeArrived_45 ?_
          refine lv_iconst (v := 1) hx hb dX2_takeArrived_48 (by decide) ?_
          refine lv_isub hx hb dX2_takeArrived_49 ?_
          refine zw_put (C := RX2) (T := TX2) (N := 2) hx hb hts hin2 tyX2 tyX2_ok nmX2 hown hE.1 hW xC_P rfl 1 (by decide) (hts (.fieldLink RX2 21 "UnionList$Post" "size" "I") (by decide +kernel)) (fun _ h9 => h9) rfl rfl rfl (Nat.le_of_ble_eq_true rfl) dX2_takeArrived_50 xP_P1 (fun H locs hW => ?_)
          obtain ⟨k8, ek8⟩ : ∃ y, y = kset k0 3 0 ((k0.1 3 0) - 1) := ⟨_, rfl⟩
          rw [← ek8] at hW
          replace h := h k8 ek8
          replace hc_6 : k8.2.2 o4 = 4 := by rw [ek8]; exact hc_6
          refine lv_iconst (v := 0) hx hb dX2_takeArrived_53 (by decide) ?_
          refine lv_istore_n (lv' := [(3, .int 0), (2, .ref o4), (0, .ref (S0 + 3)), (1, .int p1)]) hx hb dX2_takeArrived_54 rfl hl (by decide) rfl (fun ls hl => ?_)
          have lp55 : ∀ (f11 : Nat) (x9 : Int32) (k10 : kS) (H : Heap) (locs : List Loc) (ls : Array Slot), wX2_takeArrived_l55 S0 p1 Q o4 f11 x9 k10 → k10.2.2 o4 = 4 → zW D S0 (xR D S0 g k0 k10) s.heap H locs → lv_has ls 4 [(3, .int x9), (2, .ref o4), (0, .ref (S0 + 3)), (1, .int p1)] → W p l e { frames := 0, cells := 0, slots := 8 * (0), locals := 0 } s m args below meth c H locs (0) (8 * (0)) (MQ below (va_Qq (fun r u => Q r u ∧ ∀ c, r = some c → u.2.2 c = 4) (zB D S0 (fun u => xR D S0 g k0 u)) (zA S0)) args s (0) (8 * (0)) (zA S0)) (F0 m 55 ls []) := by
            intro f11
            induction f11 with
            | zero => intro x9 k10 H locs ls h; exact h.elim
            | succ f11 ih55 =>
              intro x9 k10 H locs ls h hc_6 hW hl
              unfold wX2_takeArrived_l55 at h
              refine lv_iload_n hx hb dX2_takeArrived_55 rfl (lv_at hl 0 rfl) ?_
              refine lv_aload_n hx hb dX2_takeArrived_56 rfl (lv_at hl 2 rfl) ?_
              refine zw_get (C := RX2) (T := TX2) (N := 2) hx hb hts hin2 hown hE.1 hW xC_P rfl 1 (by decide) (hts (.fieldLink RX2 21 "UnionList$Post" "size" "I") (by decide +kernel)) (fun _ h9 => h9) rfl dX2_takeArrived_57 ?_
              refine lv_icmp_ge (tgt := 83) hx hb dX2_takeArrived_60 (by decide) (fun c_12 => ?_) (fun c_12 => ?_)
              · replace h := h.1 c_12
                refine lv_aload_n hx hb dX2_takeArrived_83 rfl (lv_at hl 2 rfl) ?_
                refine zw_get (C := RX2) (T := TX2) (N := 2) hx hb hts hin2 hown hE.1 hW xC_P rfl 0 (by decide) (hts (.fieldLink RX2 15 "UnionList$Post" "waiting" "[LUnionList$Sent;") (by decide +kernel)) (fun _ h9 => h9) rfl dX2_takeArrived_84 ?_
                refine lv_aload_n hx hb dX2_takeArrived_87 rfl (lv_at hl 2 rfl) ?_
                refine zw_get (C := RX2) (T := TX2) (N := 2) hx hb hts hin2 hown hE.1 hW xC_P rfl 1 (by decide) (hts (.fieldLink RX2 21 "UnionList$Post" "size" "I") (by decide +kernel)) (fun _ h9 => h9) rfl dX2_takeArrived_88 ?_
                refine lv_null hx hb dX2_takeArrived_91 ?_
                obtain ⟨hb_13, h⟩ := h
                refine zw_astqN hx hb hE.1 hW 3 rfl xC_q2 hb_13 dX2_takeArrived_92 (xP_q2 (fun _ h9 => nomatch h9)) (fun H locs hW => ?_)
                obtain ⟨k14, ek14⟩ : ∃ y, y = kptr k10 2 (k10.1 3 0).toNatClampNeg none := ⟨_, rfl⟩
                rw [← ek14] at hW
                replace h := h k14 ek14
                replace hc_6 : k14.2.2 o4 = 4 := by rw [ek14]; exact hc_6
                refine lv_aload_n hx hb dX2_takeArrived_93 rfl (lv_at hl 1 rfl) ?_
                refine W.widen (k := 0) (n := 8 * (0)) (by omega) (by omega) ?_
                exact (z_aret (some o4) rfl hx hb hr hlocks hW ⟨h, (fun _ h9 => by cases h9; exact hc_6)⟩ dX2_takeArrived_94)
              · replace h := h.2 c_12
                refine lv_aload_n hx hb dX2_takeArrived_63 rfl (lv_at hl 2 rfl) ?_
                refine zw_get (C := RX2) (T := TX2) (N := 2) hx hb hts hin2 hown hE.1 hW xC_P rfl 0 (by decide) (hts (.fieldLink RX2 15 "UnionList$Post" "waiting" "[LUnionList$Sent;") (by decide +kernel)) (fun _ h9 => h9) rfl dX2_takeArrived_64 ?_
                refine lv_iload_n hx hb dX2_takeArrived_67 rfl (lv_at hl 0 rfl) ?_
                refine lv_aload_n hx hb dX2_takeArrived_68 rfl (lv_at hl 2 rfl) ?_
                refine zw_get (C := RX2) (T := TX2) (N := 2) hx hb hts hin2 hown hE.1 hW xC_P rfl 0 (by decide) (hts (.fieldLink RX2 15 "UnionList$Post" "waiting" "[LUnionList$Sent;") (by decide +kernel)) (fun _ h9 => h9) rfl dX2_takeArrived_69 ?_
                refine lv_iload_n hx hb dX2_takeArrived_72 rfl (lv_at hl 0 rfl) ?_
                refine lv_iconst (v := 1) hx hb dX2_takeArrived_73 (by decide) ?_
                refine lv_iadd hx hb dX2_takeArrived_74 ?_
                obtain ⟨hb_15, h⟩ := h
                refine zw_aldq hx hb hE.1 hW 3 rfl xC_q2 hb_15 dX2_takeArrived_75 ?_
                rcases eo_17 : (k10.2.1 2 (x9 + 1).toNatClampNeg) with _ | o16
                · replace h := h.1 eo_17
                  obtain ⟨hb_19, h⟩ := h
                  refine zw_astqN hx hb hE.1 hW 3 rfl xC_q2 hb_19 dX2_takeArrived_76 (xP_q2 (fun _ h9 => nomatch h9)) (fun H locs hW => ?_)
                  obtain ⟨k20, ek20⟩ : ∃ y, y = kptr k10 2 x9.toNatClampNeg none := ⟨_, rfl⟩
                  rw [← ek20] at hW
                  replace h := h k20 ek20
                  replace hc_6 : k20.2.2 o4 = 4 := by rw [ek20]; exact hc_6
                  refine lv_iinc (v := (x9 + 1)) (lv' := [(3, .int (x9 + 1)), (2, .ref o4), (0, .ref (S0 + 3)), (1, .int p1)]) hx hb dX2_takeArrived_77 hl (k := 0) rfl rfl (by decide) rfl (fun ls hl => ?_)
                  refine lv_goto (tgt := 55) hx hb dX2_takeArrived_80 (by decide) ?_
                  exact ih55 (x9 + 1) k20 _ _ _ h hc_6 hW (lv_sub hl [0, 1, 2, 3] rfl)
                · replace h := h.2 o16 eo_17
                  have hc_18 : k10.2.2 o16 = 4 := (xW_T hW).2.2.1 _ _ eo_17
                  obtain ⟨hb_21, h⟩ := h
                  refine zw_astq (r := (RX4, TX4, 4)) hx hb hE.1 hW 3 rfl xC_q2 (xC_S hc_18) rfl hb_21 dX2_takeArrived_76 (xP_q2 (fun _ h9 => by cases h9; exact hc_18)) (fun H locs hW => ?_)
                  obtain ⟨k22, ek22⟩ : ∃ y, y = kptr k10 2 x9.toNatClampNeg (some o16) := ⟨_, rfl⟩
                  rw [← ek22] at hW
                  replace h := h k22 ek22
                  replace hc_6 : k22.2.2 o4 = 4 := by rw [ek22]; exact hc_6
                  replace hc_18 : k22.2.2 o16 = 4 := by rw [ek22]; exact hc_18
                  refine lv_iinc (v := (x9 + 1)) (lv' := [(3, .int (x9 + 1)), (2, .ref o4), (0, .ref (S0 + 3)), (1, .int p1)]) hx hb dX2_takeArrived_77 hl (k := 0) rfl rfl (by decide) rfl (fun ls hl => ?_)
                  refine lv_goto (tgt := 55) hx hb dX2_takeArrived_80 (by decide) ?_
                  exact ih55 (x9 + 1) k22 _ _ _ h hc_6 hW (lv_sub hl [0, 1, 2, 3] rfl)
          obtain ⟨f23, h⟩ := h
          exact lp55 f23 0 k8 _ _ _ h hc_6 hW (lv_sub hl [0, 1, 2, 3] rfl)
        · replace h := h.2 c_7
          refine lv_null hx hb dX2_takeArrived_41 ?_
          refine W.widen (k := 0) (n := 8 * (0)) (by omega) (by omega) ?_
          exact (z_aret none rfl hx hb hr hlocks hW ⟨h, (fun _ h9 => nomatch h9)⟩ dX2_takeArrived_42)
    · replace h := h.2 c_2
      refine lv_null hx hb dX2_takeArrived_20 ?_
      refine W.widen (k := 0) (n := 8 * (0)) (by omega) (by omega) ?_
      exact (z_aret none rfl hx hb hr hlocks hW ⟨h, (fun _ h9 => nomatch h9)⟩ dX2_takeArrived_21)

def wX5_copyNumbered (S0 : Nat) (k0 : kS) (p1 : Int32) (Q : Option Nat → kS → Prop) (QX : String → kS → Prop) : Prop := ((p1 < 0 → (0 + 1 ≤ 1 ∧ QX "java/lang/IndexOutOfBoundsException" k0)) ∧ (¬ p1 < 0 → ((20 ≤ p1 → (0 + 1 ≤ 1 ∧ QX "java/lang/IndexOutOfBoundsException" k0)) ∧ (¬ 20 ≤ p1 → (vp_in p1 20 ∧ (((k0.2.1 0 p1.toNatClampNeg) = none → (0 + 1 ≤ 1 ∧ QX "java/lang/IndexOutOfBoundsException" k0)) ∧ (∀ o4 : Nat, (k0.2.1 0 p1.toNatClampNeg) = some o4 → Q (some o4) k0)))))))
theorem hin_X5_copyNumbered_5 : ∀ w ∈ u_ws RX5 TX5 7, w ∈ wsX5_copyNumbered := by decide +kernel
theorem hxt_X5_copyNumbered_197 : ∀ w ∈ (vx_atS RX5 197 "java/lang/IndexOutOfBoundsException" ["java/lang/RuntimeException", "java/lang/Exception"]).filter goodWord, w ∈ wsX5_copyNumbered := by decide +kernel
set_option maxHeartbeats 8000000 in
set_option maxRecDepth 100000 in
theorem cX5_copyNumbered_ok (l : Launch) (hlt : l.stackTraces = false) (D : zD) (S0 : Nat) (g : zF) (k0 : kS) (p1 : Int32)  (Q : Option Nat → kS → Prop) (QX : String → kS → Prop) (h : wX5_copyNumbered S0 k0 p1 Q QX) : vx_Met l yX5_copyNumbered wsX5_copyNumbered { frames := 6, cells := 1, slots := 8 * (1), locals := 90 } (zPc D S0 (xR D S0 g k0 k0) [.ref S0, .int p1]) (va_Qq (fun r u => Q r u ∧ ∀ c, r = some c → u.2.2 c = 1) (zB D S0 (fun u => xR D S0 g k0 u)) (zA S0)) (zX D S0 (fun u => xR D S0 g k0 u) QX) (1) (8 * (1)) (zA S0) := by
  refine zMetX (cc := cX5_copyNumbered) (maxL := 3) (ret := (some (.object "UnionList$Copy"))) (by decide) rfl (Nat.le_of_ble_eq_true rfl) (fun p e s m args below meth c ls hx hb hr hml hown hts hlocks hnm hnt hs hE hW hl => ?_)
  have hsz := xW_sz hW
  have hs0 : S0 ≤ s.heap.size := hs
  have hin5 := hin_X5_copyNumbered_5
  replace hl : lv_has ls 3 [(0, .ref S0), (1, .int p1)] := hl
  unfold wX5_copyNumbered at h
  refine lv_iload_n hx hb dX5_copyNumbered_0 rfl (lv_at hl 1 rfl) ?_
  refine lv_if_lt (tgt := 22) hx hb dX5_copyNumbered_1 (by decide) (fun c_1 => ?_) (fun c_1 => ?_)
  · replace h := h.1 c_1
    refine lv_null hx hb dX5_copyNumbered_22 ?_
    refine lv_astore_nN (lv' := [(2, .null), (0, .ref S0), (1, .int p1)]) hx hb dX5_copyNumbered_23 rfl hl (by decide) rfl (fun ls hl => ?_)
    refine lv_aload_nN hx hb dX5_copyNumbered_24 rfl (lv_at hl 0 rfl) ?_
    refine lv_ifnonnullN hx hb dX5_copyNumbered_25 ?_
    exact z_throw (text := "there is no such copy") hx hb hlt hown (by decide +kernel) (hts (.classLink RX5 193 "java/lang/IndexOutOfBoundsException") (by decide +kernel)) (hts (.initialized "java/lang/IndexOutOfBoundsException") (by decide +kernel)) (by decide +kernel) (vx_hatx hts hxt_X5_copyNumbered_197 (by decide +kernel) (by decide +kernel) hE) (by decide +kernel) hE hW (fun n n' f q w => xR_mono n n' f q w) (hl.1.trans hml.symm) dX5_copyNumbered_28 dX5_copyNumbered_31 dX5_copyNumbered_32 dX5_copyNumbered_34 dX5_copyNumbered_37 hnt (Nat.le_of_ble_eq_true rfl) (Nat.le_of_ble_eq_true rfl) (by have := h.1; show _ ≤ 1; omega) (by have := h.1; show _ ≤ 8 * (1); omega) hlocks h.2 (by have := h.1; omega) (by have := h.1; omega)
  · replace h := h.2 c_1
    refine lv_iload_n hx hb dX5_copyNumbered_4 rfl (lv_at hl 1 rfl) ?_
    refine lv_aload_n hx hb dX5_copyNumbered_5 rfl (lv_at hl 0 rfl) ?_
    refine zw_get (C := RX5) (T := TX5) (N := 7) hx hb hts hin5 hown hE.1 hW xC_U rfl 0 (by decide) (hts (.fieldLink RX5 11 "UnionList" "copies" "[LUnionList$Copy;") (by decide +kernel)) (fun _ h9 => h9) rfl dX5_copyNumbered_6 ?_
    refine zw_alen (v := 20) hx hb hE.1 hW 1 rfl xC_q0 rfl dX5_copyNumbered_9 ?_
    refine lv_icmp_ge (tgt := 22) hx hb dX5_copyNumbered_10 (by decide) (fun c_2 => ?_) (fun c_2 => ?_)
    · replace h := h.1 c_2
      refine lv_null hx hb dX5_copyNumbered_22 ?_
      refine lv_astore_nN (lv' := [(2, .null), (0, .ref S0), (1, .int p1)]) hx hb dX5_copyNumbered_23 rfl hl (by decide) rfl (fun ls hl => ?_)
      refine lv_aload_nN hx hb dX5_copyNumbered_24 rfl (lv_at hl 0 rfl) ?_
      refine lv_ifnonnullN hx hb dX5_copyNumbered_25 ?_
      exact z_throw (text := "there is no such copy") hx hb hlt hown (by decide +kernel) (hts (.classLink RX5 193 "java/lang/IndexOutOfBoundsException") (by decide +kernel)) (hts (.initialized "java/lang/IndexOutOfBoundsException") (by decide +kernel)) (by decide +kernel) (vx_hatx hts hxt_X5_copyNumbered_197 (by decide +kernel) (by decide +kernel) hE) (by decide +kernel) hE hW (fun n n' f q w => xR_mono n n' f q w) (hl.1.trans hml.symm) dX5_copyNumbered_28 dX5_copyNumbered_31 dX5_copyNumbered_32 dX5_copyNumbered_34 dX5_copyNumbered_37 hnt (Nat.le_of_ble_eq_true rfl) (Nat.le_of_ble_eq_true rfl) (by have := h.1; show _ ≤ 1; omega) (by have := h.1; show _ ≤ 8 * (1); omega) hlocks h.2 (by have := h.1; omega) (by have := h.1; omega)
    · replace h := h.2 c_2
      refine lv_aload_n hx hb dX5_copyNumbered_13 rfl (lv_at hl 0 rfl) ?_
      refine zw_get (C := RX5) (T := TX5) (N := 7) hx hb hts hin5 hown hE.1 hW xC_U rfl 0 (by decide) (hts (.fieldLink RX5 11 "UnionList" "copies" "[LUnionList$Copy;") (by decide +kernel)) (fun _ h9 => h9) rfl dX5_copyNumbered_14 ?_
      refine lv_iload_n hx hb dX5_copyNumbered_17 rfl (lv_at hl 1 rfl) ?_
      obtain ⟨hb_3, h⟩ := h
      refine zw_aldq hx hb hE.1 hW 1 rfl xC_q0 hb_3 dX5_copyNumbered_18 ?_
      rcases eo_5 : (k0.2.1 0 p1.toNatClampNeg) with _ | o4
      · replace h := h.1 eo_5
        refine lv_goto (tgt := 23) hx hb dX5_copyNumbered_19 (by decide) ?_
        refine lv_astore_nN (lv' := [(2, .null), (0, .ref S0), (1, .int p1)]) hx hb dX5_copyNumbered_23 rfl hl (by decide) rfl (fun ls hl => ?_)
        refine lv_aload_nN hx hb dX5_copyNumbered_24 rfl (lv_at hl 0 rfl) ?_
        refine lv_ifnonnullN hx hb dX5_copyNumbered_25 ?_
        exact z_throw (text := "there is no such copy") hx hb hlt hown (by decide +kernel) (hts (.classLink RX5 193 "java/lang/IndexOutOfBoundsException") (by decide +kernel)) (hts (.initialized "java/lang/IndexOutOfBoundsException") (by decide +kernel)) (by decide +kernel) (vx_hatx hts hxt_X5_copyNumbered_197 (by decide +kernel) (by decide +kernel) hE) (by decide +kernel) hE hW (fun n n' f q w => xR_mono n n' f q w) (hl.1.trans hml.symm) dX5_copyNumbered_28 dX5_copyNumbered_31 dX5_copyNumbered_32 dX5_copyNumbered_34 dX5_copyNumbered_37 hnt (Nat.le_of_ble_eq_true rfl) (Nat.le_of_ble_eq_true rfl) (by have := h.1; show _ ≤ 1; omega) (by have := h.1; show _ ≤ 8 * (1); omega) hlocks h.2 (by have := h.1; omega) (by have := h.1; omega)
      · replace h := h.2 o4 eo_5
        have hc_6 : k0.2.2 o4 = 1 := (xW_T hW).1 _ _ eo_5
        refine lv_goto (tgt := 23) hx hb dX5_copyNumbered_19 (by decide) ?_
        refine lv_astore_n (lv' := [(2, .ref o4), (0, .ref S0), (1, .int p1)]) hx hb dX5_copyNumbered_23 rfl hl (by decide) rfl (fun ls hl => ?_)
        refine lv_aload_n hx hb dX5_copyNumbered_24 rfl (lv_at hl 0 rfl) ?_
        refine lv_ifnonnull (tgt := 38) hx hb dX5_copyNumbered_25 (by decide) ?_
        refine lv_aload_n hx hb dX5_copyNumbered_38 rfl (lv_at hl 0 rfl) ?_
        refine W.widen (k := 1) (n := 8 * (1)) (by omega) (by omega) ?_
        exact vx_ret (z_aret (some o4) rfl hx hb hr hlocks hW ⟨h, (fun _ h9 => by cases h9; exact hc_6)⟩ dX5_copyNumbered_39)

def wX5_requestNumbered (S0 : Nat) (k0 : kS) (p1 : Int32) (Q : Option Nat → kS → Prop) (QX : String → kS → Prop) : Prop := ((p1 < 0 → (0 + 1 ≤ 1 ∧ QX "java/lang/IndexOutOfBoundsException" k0)) ∧ (¬ p1 < 0 → ((40 ≤ p1 → (0 + 1 ≤ 1 ∧ QX "java/lang/IndexOutOfBoundsException" k0)) ∧ (¬ 40 ≤ p1 → (vp_in p1 40 ∧ (((k0.2.1 1 p1.toNatClampNeg) = none → (0 + 1 ≤ 1 ∧ QX "java/lang/IndexOutOfBoundsException" k0)) ∧ (∀ o4 : Nat, (k0.2.1 1 p1.toNatClampNeg) = some o4 → Q (some o4) k0)))))))
theorem hin_X5_requestNumbered_5 : ∀ w ∈ u_ws RX5 TX5 7, w ∈ wsX5_requestNumbered := by decide +kernel
theorem hxt_X5_requestNumbered_197 : ∀ w ∈ (vx_atS RX5 197 "java/lang/IndexOutOfBoundsException" ["java/lang/RuntimeException", "java/lang/Exception"]).filter goodWord, w ∈ wsX5_requestNumbered := by decide +kernel
set_option maxHeartbeats 8000000 in
set_option maxRecDepth 100000 in
theorem cX5_requestNumbered_ok (l : Launch) (hlt : l.stackTraces = false) (D : zD) (S0 : Nat) (g : zF) (k0 : kS) (p1 : Int32)  (Q : Option Nat → kS → Prop) (QX : String → kS → Prop) (h : wX5_requestNumbered S0 k0 p1 Q QX) : vx_Met l yX5_requestNumbered wsX5_requestNumbered { frames := 6, cells := 1, slots := 8 * (1), locals := 90 } (zPc D S0 (xR D S0 g k0 k0) [.ref S0, .int p1]) (va_Qq (fun r u => Q r u ∧ ∀ c, r = some c → u.2.2 c = 3) (zB D S0 (fun u => xR D S0 g k0 u)) (zA S0)) (zX D S0 (fun u => xR D S0 g k0 u) QX) (1) (8 * (1)) (zA S0) := by
  refine zMetX (cc := cX5_requestNumbered) (maxL := 3) (ret := (some (.object "UnionList$Request"))) (by decide) rfl (Nat.le_of_ble_eq_true rfl) (fun p e s m args below meth c ls hx hb hr hml hown hts hlocks hnm hnt hs hE hW hl => ?_)
  have hsz := xW_sz hW
  have hs0 : S0 ≤ s.heap.size := hs
  have hin5 := hin_X5_requestNumbered_5
  replace hl : lv_has ls 3 [(0, .ref S0), (1, .int p1)] := hl
  unfold wX5_requestNumbered at h
  refine lv_iload_n hx hb dX5_requestNumbered_0 rfl (lv_at hl 1 rfl) ?_
  refine lv_if_lt (tgt := 22) hx hb dX5_requestNumbered_1 (by decide) (fun c_1 => ?_) (fun c_1 => ?_)
  · replace h := h.1 c_1
    refine lv_null hx hb dX5_requestNumbered_22 ?_
    refine lv_astore_nN (lv' := [(2, .null), (0, .ref S0), (1, .int p1)]) hx hb dX5_requestNumbered_23 rfl hl (by decide) rfl (fun ls hl => ?_)
    refine lv_aload_nN hx hb dX5_requestNumbered_24 rfl (lv_at hl 0 rfl) ?_
    refine lv_ifnonnullN hx hb dX5_requestNumbered_25 ?_
    exact z_throw (text := "there is no such request") hx hb hlt hown (by decide +kernel) (hts (.classLink RX5 193 "java/lang/IndexOutOfBoundsException") (by decide +kernel)) (hts (.initialized "java/lang/IndexOutOfBoundsException") (by decide +kernel)) (by decide +kernel) (vx_hatx hts hxt_X5_requestNumbered_197 (by decide +kernel) (by decide +kernel) hE) (by decide +kernel) hE hW (fun n n' f q w => xR_mono n n' f q w) (hl.1.trans hml.symm) dX5_requestNumbered_28 dX5_requestNumbered_31 dX5_requestNumbered_32 dX5_requestNumbered_34 dX5_requestNumbered_37 hnt (Nat.le_of_ble_eq_true rfl) (Nat.le_of_ble_eq_true rfl) (by have := h.1; show _ ≤ 1; omega) (by have := h.1; show _ ≤ 8 * (1); omega) hlocks h.2 (by have := h.1; omega) (by have := h.1; omega)
  · replace h := h.2 c_1
    refine lv_iload_n hx hb dX5_requestNumbered_4 rfl (lv_at hl 1 rfl) ?_
    refine lv_aload_n hx hb dX5_requestNumbered_5 rfl (lv_at hl 0 rfl) ?_
    refine zw_get (C := RX5) (T := TX5) (N := 7) hx hb hts hin5 hown hE.1 hW xC_U rfl 1 (by decide) (hts (.fieldLink RX5 17 "UnionList" "requests" "[LUnionList$Request;") (by decide +kernel)) (fun _ h9 => h9) rfl dX5_requestNumbered_6 ?_
    refine zw_alen (v := 40) hx hb hE.1 hW 2 rfl xC_q1 rfl dX5_requestNumbered_9 ?_
    refine lv_icmp_ge (tgt := 22) hx hb dX5_requestNumbered_10 (by decide) (fun c_2 => ?_) (fun c_2 => ?_)
    · replace h := h.1 c_2
      refine lv_null hx hb dX5_requestNumbered_22 ?_
      refine lv_astore_nN (lv' := [(2, .null), (0, .ref S0), (1, .int p1)]) hx hb dX5_requestNumbered_23 rfl hl (by decide) rfl (fun ls hl => ?_)
      refine lv_aload_nN hx hb dX5_requestNumbered_24 rfl (lv_at hl 0 rfl) ?_
      refine lv_ifnonnullN hx hb dX5_requestNumbered_25 ?_
      exact z_throw (text := "there is no such request") hx hb hlt hown (by decide +kernel) (hts (.classLink RX5 193 "java/lang/IndexOutOfBoundsException") (by decide +kernel)) (hts (.initialized "java/lang/IndexOutOfBoundsException") (by decide +kernel)) (by decide +kernel) (vx_hatx hts hxt_X5_requestNumbered_197 (by decide +kernel) (by decide +kernel) hE) (by decide +kernel) hE hW (fun n n' f q w => xR_mono n n' f q w) (hl.1.trans hml.symm) dX5_requestNumbered_28 dX5_requestNumbered_31 dX5_requestNumbered_32 dX5_requestNumbered_34 dX5_requestNumbered_37 hnt (Nat.le_of_ble_eq_true rfl) (Nat.le_of_ble_eq_true rfl) (by have := h.1; show _ ≤ 1; omega) (by have := h.1; show _ ≤ 8 * (1); omega) hlocks h.2 (by have := h.1; omega) (by have := h.1; omega)
    · replace h := h.2 c_2
      refine lv_aload_n hx hb dX5_requestNumbered_13 rfl (lv_at hl 0 rfl) ?_
      refine zw_get (C := RX5) (T := TX5) (N := 7) hx hb hts hin5 hown hE.1 hW xC_U rfl 1 (by decide) (hts (.fieldLink RX5 17 "UnionList" "requests" "[LUnionList$Request;") (by decide +kernel)) (fun _ h9 => h9) rfl dX5_requestNumbered_14 ?_
      refine lv_iload_n hx hb dX5_requestNumbered_17 rfl (lv_at hl 1 rfl) ?_
      obtain ⟨hb_3, h⟩ := h
      refine zw_aldq hx hb hE.1 hW 2 rfl xC_q1 hb_3 dX5_requestNumbered_18 ?_
      rcases eo_5 : (k0.2.1 1 p1.toNatClampNeg) with _ | o4
      · replace h := h.1 eo_5
        refine lv_goto (tgt := 23) hx hb dX5_requestNumbered_19 (by decide) ?_
        refine lv_astore_nN (lv' := [(2, .null), (0, .ref S0), (1, .int p1)]) hx hb dX5_requestNumbered_23 rfl hl (by decide) rfl (fun ls hl => ?_)
        refine lv_aload_nN hx hb dX5_requestNumbered_24 rfl (lv_at hl 0 rfl) ?_
        refine lv_ifnonnullN hx hb dX5_requestNumbered_25 ?_
        exact z_throw (text := "there is no such request") hx hb hlt hown (by decide +kernel) (hts (.classLink RX5 193 "java/lang/IndexOutOfBoundsException") (by decide +kernel)) (hts (.initialized "java/lang/IndexOutOfBoundsException") (by decide +kernel)) (by decide +kernel) (vx_hatx hts hxt_X5_requestNumbered_197 (by decide +kernel) (by decide +kernel) hE) (by decide +kernel) hE hW (fun n n' f q w => xR_mono n n' f q w) (hl.1.trans hml.symm) dX5_requestNumbered_28 dX5_requestNumbered_31 dX5_requestNumbered_32 dX5_requestNumbered_34 dX5_requestNumbered_37 hnt (Nat.le_of_ble_eq_true rfl) (Nat.le_of_ble_eq_true rfl) (by have := h.1; show _ ≤ 1; omega) (by have := h.1; show _ ≤ 8 * (1); omega) hlocks h.2 (by have := h.1; omega) (by have := h.1; omega)
      · replace h := h.2 o4 eo_5
        have hc_6 : k0.2.2 o4 = 3 := (xW_T hW).2.1 _ _ eo_5
        refine lv_goto (tgt := 23) hx hb dX5_requestNumbered_19 (by decide) ?_
        refine lv_astore_n (lv' := [(2, .ref o4), (0, .ref S0), (1, .int p1)]) hx hb dX5_requestNumbered_23 rfl hl (by decide) rfl (fun ls hl => ?_)
        refine lv_aload_n hx hb dX5_requestNumbered_24 rfl (lv_at hl 0 rfl) ?_
        refine lv_ifnonnull (tgt := 38) hx hb dX5_requestNumbered_25 (by decide) ?_
        refine lv_aload_n hx hb dX5_requestNumbered_38 rfl (lv_at hl 0 rfl) ?_
        refine W.widen (k := 1) (n := 8 * (1)) (by omega) (by omega) ?_
        exact vx_ret (z_aret (some o4) rfl hx hb hr hlocks hW ⟨h, (fun _ h9 => by cases h9; exact hc_6)⟩ dX5_requestNumbered_39)

def wX5_send (S0 : Nat) (k0 : kS) (p1 : Int32) (p2 : Int32) (c3 : Nat) (a4 : Option Nat) (Q : Int32 → kS → Prop) : Prop := ((a4 = none → (0 + 1 ≤ 1 ∧ ∀ q3 : Nat, k0.2.2 q3 = 0 → S0 + 9 ≤ q3 → ∀ k7 : kS, k7 = knew k0 q3 4 → (wX4_init S0 k7 q3 p1 ((k0.1 2 0) + p2) c3 none (fun k10 => (wX2_put S0 k10 q3 (fun k12 => Q ((k0.1 2 0) + p2) k12)))))) ∧ (∀ o1 : Nat, a4 = some o1 → (0 + 1 ≤ 1 ∧ ∀ q13 : Nat, k0.2.2 q13 = 0 → S0 + 9 ≤ q13 → ∀ k17 : kS, k17 = knew k0 q13 4 → (wX4_init S0 k17 q13 p1 ((k0.1 2 0) + p2) c3 (some o1) (fun k20 => (wX2_put S0 k20 q13 (fun k22 => Q ((k0.1 2 0) + p2) k22)))))))
theorem hin_X5_send_4 : ∀ w ∈ u_ws RX4 TX4 4, w ∈ wsX5_send := by decide +kernel
theorem hin_X5_send_5 : ∀ w ∈ u_ws RX5 TX5 7, w ∈ wsX5_send := by decide +kernel
set_option maxHeartbeats 8000000 in
set_option maxRecDepth 100000 in
theorem cX5_send_ok (l : Launch) (hlt : l.stackTraces = false) (D : zD) (S0 : Nat) (g : zF) (k0 : kS) (p1 : Int32) (p2 : Int32) (c3 : Nat) (a4 : Option Nat) (hc3 : k0.2.2 c3 = 1) (ha4 : ∀ b, a4 = some b → k0.2.2 b = 3) (Q : Int32 → kS → Prop) (h : wX5_send S0 k0 p1 p2 c3 a4 Q) : Met l yX5_send wsX5_send { frames := 2, cells := 1, slots := 8 * (1), locals := 44 } (zPc D S0 (xR D S0 g k0 k0) [.ref S0, .int p1, .int p2, .ref c3, va_rf a4]) (va_Qi Q (zB D S0 (fun u => xR D S0 g k0 u)) (zA S0)) (1) (8 * (1)) (zA S0) := by
  rcases a4 with _ | o1
  · refine zMet (cc := cX5_send) (maxL := 6) (ret := (some .int)) (by decide) rfl (Nat.le_of_ble_eq_true rfl) (fun p e s m args below meth c ls hx hb hr hml hown hts hlocks hnm hs hE hW hl => ?_)
    have hsz := xW_sz hW
    have hs0 : S0 ≤ s.heap.size := hs
    have hin4 := hin_X5_send_4
    have hin5 := hin_X5_send_5
    replace hl : lv_has ls 6 [(0, .ref S0), (1, .int p1), (2, .int p2), (3, .ref c3), (4, .null)] := hl
    unfold wX5_send at h
    replace h := h.1 rfl
    refine lv_aload_n hx hb dX5_send_0 rfl (lv_at hl 0 rfl) ?_
    refine zw_get (C := RX5) (T := TX5) (N := 7) hx hb hts hin5 hown hE.1 hW xC_U rfl 6 (by decide) (hts (.fieldLink RX5 44 "UnionList" "day" "I") (by decide +kernel)) (fun _ h9 => h9) rfl dX5_send_1 ?_
    refine lv_iload_n hx hb dX5_send_4 rfl (lv_at hl 2 rfl) ?_
    refine lv_iadd hx hb dX5_send_5 ?_
    refine lv_istore (lv' := [(5, .int ((k0.1 2 0) + p2)), (0, .ref S0), (1, .int p1), (2, .int p2), (3, .ref c3), (4, .null)]) hx hb dX5_send_6 hl (by decide) rfl (fun ls hl => ?_)
    refine lv_aload_n hx hb dX5_send_8 rfl (lv_at hl 1 rfl) ?_
    refine zw_get (C := RX5) (T := TX5) (N := 7) hx hb hts hin5 hown hE.1 hW xC_U rfl 2 (by decide) (hts (.fieldLink RX5 26 "UnionList" "post" "LUnionList$Post;") (by decide +kernel)) (fun _ h9 => h9) rfl dX5_send_9 ?_
    obtain ⟨hb_4, h⟩ := h
    refine zw_new (ci := 4) (C := RX4) (T := TX4) (N := 4) (fs := [.int 0, .int 0, .null, .null]) hx hb hts hin4 tyX4 tyX4_ok hown (hts (.classLink RX5 203 RX4) (by decide +kernel)) (hts (.instantiable RX4 4) (by decide +kernel)) (hts (.initialized RX4) (by decide +kernel)) hE.1 hW hs0 rfl (fun j hj => by rcases (show j = 0 ∨ j = 1 ∨ j = 2 ∨ j = 3 by omega) with rfl | rfl | rfl | rfl <;> rfl) hb_4 (by show _ ≤ 8 * (1); omega) dX5_send_12 (fun q3 H hW hq_6 => ?_)
    refine W.widen (k := 0 + 1) (n := 8 * (0 + 1)) (Nat.le_refl _) (by omega) ?_
    replace hq_6 : S0 + 9 ≤ q3 := Nat.le_trans hsz hq_6
    obtain ⟨h0_5, hW⟩ := xW_newS hW hq_6
    obtain ⟨k7, ek7⟩ : ∃ y, y = knew k0 q3 4 := ⟨_, rfl⟩
    rw [← ek7] at hW
    replace h := h q3 h0_5 hq_6 k7 ek7
    replace hc3 : k7.2.2 c3 = 1 := by rw [ek7]; exact knew_k h0_5 hc3
    have hc_8 : k7.2.2 q3 = 4 := by rw [ek7]; exact knew_q _ _ _
    refine lv_dup hx hb dX5_send_15 rfl ?_
    refine lv_iload_n hx hb dX5_send_16 rfl (lv_at hl 2 rfl) ?_
    refine lv_iload hx hb dX5_send_17 (lv_at hl 0 rfl) ?_
    refine lv_aload_n hx hb dX5_send_19 rfl (lv_at hl 4 rfl) ?_
    refine lv_aloadN hx hb dX5_send_20 (lv_at hl 5 rfl) ?_
    have hle := xW_kle hW
    refine zc_v (va_runI (As := [.int p1, .int ((k0.1 2 0) + p2), .ref c3, .null]) (rest := [.ref q3, .ref (S0 + 3)]) ⟨hx, hb, hml, hown, hts⟩ (cX4_init_ok l hlt D S0 g k7 q3 p1 ((k0.1 2 0) + p2) c3 none hc_8 hc3 (fun _ h9 => nomatch h9) _ h) (cwI 4 hts gX5_send_X4_init rfl rfl rfl (hts (.initialized RX4) (by decide +kernel)) (hts (.methodLink RX5 205 yX4_init) (by decide +kernel)) (hts (.instanceMethod yX4_init) (by decide +kernel)) rfl (by decide +kernel) ⟨Nat.le_of_ble_eq_true rfl, Nat.le_of_ble_eq_true rfl⟩) (zpreS hE hs (xW_start hW)) rfl rfl hl.1 rfl (lv_room (Nat.le_of_ble_eq_true rfl)) dX5_send_22 ⟨by show _ ≤ 1; omega, by show _ ≤ 8 * (1); omega⟩) hW (fun k10 H locs h hW => ?_)
    replace hc3 := kle_1 (xW_kle hW) hc3
    replace hc_8 := kle_4 (xW_kle hW) hc_8
    replace hW := hW.mono (xR_tr hle)
    refine W.widen (k := 0 + 1) (n := 8 * (0 + 1)) (by omega) (by omega) ?_
    have hle := xW_kle hW
    refine zc_v (va_runV (As := [.ref q3]) (rest := []) ⟨hx, hb, hml, hown, hts⟩ (cX2_put_ok l hlt D S0 g k10 q3 hc_8 _ h) (cwV 1 hts gX5_send_X2_put rfl rfl rfl (by decide +kernel) ⟨Nat.le_of_ble_eq_true rfl, Nat.le_of_ble_eq_true rfl⟩) (zpreV (q := (RX2, TX2, 2)) hE hs (xW_start hW) xC_P rfl) rfl rfl hl.1 rfl (lv_room (Nat.le_of_ble_eq_true rfl)) dX5_send_25 ⟨by show _ ≤ 1; omega, by show _ ≤ 8 * (1); omega⟩) hW (fun k12 H locs h hW => ?_)
    replace hc3 := kle_1 (xW_kle hW) hc3
    replace hc_8 := kle_4 (xW_kle hW) hc_8
    replace hW := hW.mono (xR_tr hle)
    refine W.widen (k := 0 + 1) (n := 8 * (0 + 1)) (by omega) (by omega) ?_
    refine lv_iload hx hb dX5_send_28 (lv_at hl 0 rfl) ?_
    refine W.widen (k := 1) (n := 8 * (1)) (by omega) (by omega) ?_
    exact (z_iret hx hb hr hlocks hW h dX5_send_30)
  · refine zMet (cc := cX5_send) (maxL := 6) (ret := (some .int)) (by decide) rfl (Nat.le_of_ble_eq_true rfl) (fun p e s m args below meth c ls hx hb hr hml hown hts hlocks hnm hs hE hW hl => ?_)
    have hsz := xW_sz hW
    have hs0 : S0 ≤ s.heap.size := hs
    have hin4 := hin_X5_send_4
    have hin5 := hin_X5_send_5
    replace hl : lv_has ls 6 [(0, .ref S0), (1, .int p1), (2, .int p2), (3, .ref c3), (4, .ref o1)] := hl
    unfold wX5_send at h
    replace h := h.2 o1 rfl
    have hc_2 : k0.2.2 o1 = 3 := ha4 o1 rfl
    refine lv_aload_n hx hb dX5_send_0 rfl (lv_at hl 0 rfl) ?_
    refine zw_get (C := RX5) (T := TX5) (N := 7) hx hb hts hin5 hown hE.1 hW xC_U rfl 6 (by decide) (hts (.fieldLink RX5 44 "UnionList" "day" "I") (by decide +kernel)) (fun _ h9 => h9) rfl dX5_send_1 ?_
    refine lv_iload_n hx hb dX5_send_4 rfl (lv_at hl 2 rfl) ?_
    refine lv_iadd hx hb dX5_send_5 ?_
    refine lv_istore (lv' := [(5, .int ((k0.1 2 0) + p2)), (0, .ref S0), (1, .int p1), (2, .int p2), (3, .ref c3), (4, .ref o1)]) hx hb dX5_send_6 hl (by decide) rfl (fun ls hl => ?_)
    refine lv_aload_n hx hb dX5_send_8 rfl (lv_at hl 1 rfl) ?_
    refine zw_get (C := RX5) (T := TX5) (N := 7) hx hb hts hin5 hown hE.1 hW xC_U rfl 2 (by decide) (hts (.fieldLink RX5 26 "UnionList" "post" "LUnionList$Post;") (by decide +kernel)) (fun _ h9 => h9) rfl dX5_send_9 ?_
    obtain ⟨hb_14, h⟩ := h
    refine zw_new (ci := 4) (C := RX4) (T := TX4) (N := 4) (fs := [.int 0, .int 0, .null, .null]) hx hb hts hin4 tyX4 tyX4_ok hown (hts (.classLink RX5 203 RX4) (by decide +kernel)) (hts (.instantiable RX4 4) (by decide +kernel)) (hts (.initialized RX4) (by decide +kernel)) hE.1 hW hs0 rfl (fun j hj => by rcases (show j = 0 ∨ j = 1 ∨ j = 2 ∨ j = 3 by omega) with rfl | rfl | rfl | rfl <;> rfl) hb_14 (by show _ ≤ 8 * (1); omega) dX5_send_12 (fun q13 H hW hq_16 => ?_)
    refine W.widen (k := 0 + 1) (n := 8 * (0 + 1)) (Nat.le_refl _) (by omega) ?_
    replace hq_16 : S0 + 9 ≤ q13 := Nat.le_trans hsz hq_16
    obtain ⟨h0_15, hW⟩ := xW_newS hW hq_16
    obtain ⟨k17, ek17⟩ : ∃ y, y = knew k0 q13 4 := ⟨_, rfl⟩
    rw [← ek17] at hW
    replace h := h q13 h0_15 hq_16 k17 ek17
    replace hc3 : k17.2.2 c3 = 1 := by rw [ek17]; exact knew_k h0_15 hc3
    replace hc_2 : k17.2.2 o1 = 3 := by rw [ek17]; exact knew_k h0_15 hc_2
    have hc_18 : k17.2.2 q13 = 4 := by rw [ek17]; exact knew_q _ _ _
    refine lv_dup hx hb dX5_send_15 rfl ?_
    refine lv_iload_n hx hb dX5_send_16 rfl (lv_at hl 2 rfl) ?_
    refine lv_iload hx hb dX5_send_17 (lv_at hl 0 rfl) ?_
    refine lv_aload_n hx hb dX5_send_19 rfl (lv_at hl 4 rfl) ?_
    refine lv_aload hx hb dX5_send_20 (lv_at hl 5 rfl) ?_
    have hle := xW_kle hW
    refine zc_v (va_runI (As := [.int p1, .int ((k0.1 2 0) + p2), .ref c3, .ref o1]) (rest := [.ref q13, .ref (S0 + 3)]) ⟨hx, hb, hml, hown, hts⟩ (cX4_init_ok l hlt D S0 g k17 q13 p1 ((k0.1 2 0) + p2) c3 (some o1) hc_18 hc3 (fun _ h9 => by cases h9; exact hc_2) _ h) (cwI 4 hts gX5_send_X4_init rfl rfl rfl (hts (.initialized RX4) (by decide +kernel)) (hts (.methodLink RX5 205 yX4_init) (by decide +kernel)) (hts (.instanceMethod yX4_init) (by decide +kernel)) rfl (by decide +kernel) ⟨Nat.le_of_ble_eq_true rfl, Nat.le_of_ble_eq_true rfl⟩) (zpreS hE hs (xW_start hW)) rfl rfl hl.1 rfl (lv_room (Nat.le_of_ble_eq_true rfl)) dX5_send_22 ⟨by show _ ≤ 1; omega, by show _ ≤ 8 * (1); omega⟩) hW (fun k20 H locs h hW => ?_)
    replace hc3 := kle_1 (xW_kle hW) hc3
    replace hc_2 := kle_3 (xW_kle hW) hc_2
    replace hc_18 := kle_4 (xW_kle hW) hc_18
    replace hW := hW.mono (xR_tr hle)
    refine W.widen (k := 0 + 1) (n := 8 * (0 + 1)) (by omega) (by omega) ?_
    have hle := xW_kle hW
    refine zc_v (va_runV (As := [.ref q13]) (rest := []) ⟨hx, hb, hml, hown, hts⟩ (cX2_put_ok l hlt D S0 g k20 q13 hc_18 _ h) (cwV 1 hts gX5_send_X2_put rfl rfl rfl (by decide +kernel) ⟨Nat.le_of_ble_eq_true rfl, Nat.le_of_ble_eq_true rfl⟩) (zpreV (q := (RX2, TX2, 2)) hE hs (xW_start hW) xC_P rfl) rfl rfl hl.1 rfl (lv_room (Nat.le_of_ble_eq_true rfl)) dX5_send_25 ⟨by show _ ≤ 1; omega, by show _ ≤ 8 * (1); omega⟩) hW (fun k22 H locs h hW => ?_)
    replace hc3 := kle_1 (xW_kle hW) hc3
    replace hc_2 := kle_3 (xW_kle hW) hc_2
    replace hc_18 := kle_4 (xW_kle hW) hc_18
    replace hW := hW.mono (xR_tr hle)
    refine W.widen (k := 0 + 1) (n := 8 * (0 + 1)) (by omega) (by omega) ?_
    refine lv_iload hx hb dX5_send_28 (lv_at hl 0 rfl) ?_
    refine W.widen (k := 1) (n := 8 * (1)) (by omega) (by omega) ?_
    exact (z_iret hx hb hr hlocks hW h dX5_send_30)

def wX5_sendNews (S0 : Nat) (k0 : kS) (p1 : Int32) (c2 : Nat) (Q : kS → Prop) : Prop := (wX5_wayToList S0 k0 (k0.1 11 c2) (fun r1 k2 => (wX5_send S0 k2 p1 r1 c2 none (fun r3 k4 => Q k4))))
theorem hin_X5_sendNews_1 : ∀ w ∈ u_ws RX1 TX1 8, w ∈ wsX5_sendNews := by decide +kernel
set_option maxHeartbeats 8000000 in
set_option maxRecDepth 100000 in
theorem cX5_sendNews_ok (l : Launch) (hlt : l.stackTraces = false) (D : zD) (S0 : Nat) (g : zF) (k0 : kS) (p1 : Int32) (c2 : Nat) (hc2 : k0.2.2 c2 = 1) (Q : kS → Prop) (h : wX5_sendNews S0 k0 p1 c2 Q) : Met l yX5_sendNews wsX5_sendNews { frames := 3, cells := 1, slots := 8 * (1), locals := 69 } (zPc D S0 (xR D S0 g k0 k0) [.ref S0, .int p1, .ref c2]) (va_Qv Q (zB D S0 (fun u => xR D S0 g k0 u)) (zA S0)) (1) (8 * (1)) (zA S0) := by
  refine zMet (cc := cX5_sendNews) (maxL := 3) (ret := none) (by decide) rfl (Nat.le_of_ble_eq_true rfl) (fun p e s m args below meth c ls hx hb hr hml hown hts hlocks hnm hs hE hW hl => ?_)
  have hsz := xW_sz hW
  have hs0 : S0 ≤ s.heap.size := hs
  have hin1 := hin_X5_sendNews_1
  replace hl : lv_has ls 3 [(0, .ref S0), (1, .int p1), (2, .ref c2)] := hl
  unfold wX5_sendNews at h
  refine lv_aload_n hx hb dX5_sendNews_0 rfl (lv_at hl 0 rfl) ?_
  refine lv_iload_n hx hb dX5_sendNews_1 rfl (lv_at hl 1 rfl) ?_
  refine lv_aload_n hx hb dX5_sendNews_2 rfl (lv_at hl 2 rfl) ?_
  refine zw_get (C := RX1) (T := TX1) (N := 8) hx hb hts hin1 hown hE.1 hW (xC_C hc2) rfl 1 (by decide) (hts (.fieldLink RX5 149 "UnionList$Copy" "home" "I") (by decide +kernel)) (fun _ h9 => h9) rfl dX5_sendNews_3 ?_
  have hle := xW_kle hW
  refine zc_i (va_runS (As := [.int (k0.1 11 c2)]) (rest := [.int p1, .ref S0]) ⟨hx, hb, hml, hown, hts⟩ (cX5_wayToList_ok l hlt D S0 g k0 (k0.1 11 c2) _ h) (va_cwS 1 hts gX5_sendNews_X5_wayToList rfl rfl rfl (by decide +kernel) ⟨Nat.le_of_ble_eq_true rfl, Nat.le_of_ble_eq_true rfl⟩) (zpreS hE hs (xW_start hW)) rfl rfl hl.1 rfl (lv_room (Nat.le_of_ble_eq_true rfl)) dX5_sendNews_6 ⟨by show _ ≤ 1; omega, by show _ ≤ 8 * (1); omega⟩) hW (fun r1 k2 H locs h hW => ?_)
  replace hc2 := kle_1 (xW_kle hW) hc2
  replace hW := hW.mono (xR_tr hle)
  refine W.widen (k := 0) (n := 8 * (0)) (by omega) (by omega) ?_
  refine lv_aload_n hx hb dX5_sendNews_9 rfl (lv_at hl 2 rfl) ?_
  refine lv_null hx hb dX5_sendNews_10 ?_
  have hle := xW_kle hW
  refine zc_i (va_runV (As := [.int p1, .int r1, .ref c2, .null]) (rest := []) ⟨hx, hb, hml, hown, hts⟩ (cX5_send_ok l hlt D S0 g k2 p1 r1 c2 none hc2 (fun _ h9 => nomatch h9) _ h) (cwV 4 hts gX5_sendNews_X5_send rfl rfl rfl (by decide +kernel) ⟨Nat.le_of_ble_eq_true rfl, Nat.le_of_ble_eq_true rfl⟩) (zpreV (q := (RX5, TX5, 7)) hE hs (xW_start hW) xC_U rfl) rfl rfl hl.1 rfl (lv_room (Nat.le_of_ble_eq_true rfl)) dX5_sendNews_11 ⟨by show _ ≤ 1; omega, by show _ ≤ 8 * (1); omega⟩) hW (fun r3 k4 H locs h hW => ?_)
  replace hc2 := kle_1 (xW_kle hW) hc2
  replace hW := hW.mono (xR_tr hle)
  refine W.widen (k := 0 + 1) (n := 8 * (0 + 1)) (by omega) (by omega) ?_
  refine lv_pop hx hb dX5_sendNews_14 rfl ?_
  refine W.widen (k := 1) (n := 8 * (1)) (by omega) (by omega) ?_
  exact (z_vret hx hb hr hlocks hW h dX5_sendNews_15)
