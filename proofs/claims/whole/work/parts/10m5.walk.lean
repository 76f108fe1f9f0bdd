def wX6_arriveAll_l57 (Q : Int32 → mS → Prop) (K : Int32 → Int32 → Int32 → mS → Prop) : Nat → Int32 → Int32 → Int32 → Int32 → mS → Prop
  | 0, _, _, _, _, _ => False
  | f12 + 1, x7, x8, x9, x10, m11 => (((m11 19 0) ≤ x7 → (∀ m14 : mS, m14 = mset m11 19 0 x8 → Q x10 m14)) ∧ (¬ (m11 19 0) ≤ x7 → (vp_in x7 4000 ∧ (((m11 18 x7.toNatClampNeg) ≤ (m11 22 0) → (wX6_arriveAll_l57 Q K f12 (x7 + 1) x8 x9 x10 m11)) ∧ (¬ (m11 18 x7.toNatClampNeg) ≤ (m11 22 0) → (vp_in x7 4000 ∧ (vp_in x8 4000 ∧ (∀ m19 : mS, m19 = mset m11 16 x8.toNatClampNeg (m11 16 x7.toNatClampNeg) → (vp_in x7 4000 ∧ (vp_in x8 4000 ∧ (∀ m22 : mS, m22 = mset m19 17 x8.toNatClampNeg (m19 17 x7.toNatClampNeg) → (vp_in x7 4000 ∧ (vp_in x8 4000 ∧ (∀ m25 : mS, m25 = mset m22 18 x8.toNatClampNeg (m22 18 x7.toNatClampNeg) → (wX6_arriveAll_l57 Q K f12 (x7 + 1) (x8 + 1) x9 x10 m25)))))))))))))))
def wX6_arriveAll_l9 (Q : Int32 → mS → Prop) : Nat → Int32 → Int32 → Int32 → mS → Prop
  | 0, _, _, _, _ => False
  | f5 + 1, x1, x2, x3, m4 => ((x2 ≤ x1 → (∃ f26 : Nat, wX6_arriveAll_l57 Q (fun u0 u1 u2 u3 => wX6_arriveAll_l9 Q f5 u0 u1 u2 u3) f26 0 0 x2 x3 m4)) ∧ (¬ x2 ≤ x1 → (vp_in x1 4000 ∧ (((m4 18 x1.toNatClampNeg) = (m4 22 0) → (vp_in x1 4000 ∧ (vp_in x1 4000 ∧ (wX6_arrive m4 (m4 16 x1.toNatClampNeg) (m4 17 x1.toNatClampNeg) (fun m32 => (wX6_arriveAll_l9 Q f5 (x1 + 1) x2 (x3 + 1) m32)))))) ∧ (¬ (m4 18 x1.toNatClampNeg) = (m4 22 0) → (wX6_arriveAll_l9 Q f5 (x1 + 1) x2 x3 m4))))))
def wX6_arriveAll (m0 : mS) (Q : Int32 → mS → Prop) : Prop := (∃ f33 : Nat, wX6_arriveAll_l9 Q f33 0 (m0 19 0) 0 m0)
theorem hin_X6_arriveAll_6 : ∀ w ∈ u_ws RX6 TX6 24, w ∈ wsX6_arriveAll := by decide +kernel
set_option maxHeartbeats 8000000 in
set_option maxRecDepth 100000 in
theorem cX6_arriveAll_ok (l : Launch) (hlt : l.stackTraces = false) (D : zD) (S0 : Nat) (g : zF) (m0 : mS)   (Q : Int32 → mS → Prop) (h : wX6_arriveAll m0 Q) : Met l yX6_arriveAll wsX6_arriveAll { frames := 4, cells := 0, slots := 8 * (0), locals := 91 } (zPc D S0 (mR D S0 g m0) [.ref (S0 + 9)]) (va_Qi Q (zB D S0 (fun u => mR D S0 g u)) (zA S0)) (0) (8 * (0)) (zA S0) := by
  refine zMet (cc := cX6_arriveAll) (maxL := 5) (ret := (some .int)) (by decide) rfl (Nat.le_of_ble_eq_true rfl) (fun p e s m args below meth c ls hx hb hr hml hown hts hlocks hnm hs hE hW hl => ?_)
  have hin6 := hin_X6_arriveAll_6
  replace hl : lv_has ls 5 [(0, .ref (S0 + 9))] := hl
  unfold wX6_arriveAll at h
  refine lv_iconst (v := 0) hx hb dX6_arriveAll_0 (by decide) ?_
  refine lv_istore_n (lv' := [(1, .int 0), (0, .ref (S0 + 9))]) hx hb dX6_arriveAll_1 rfl hl (by decide) rfl (fun ls hl => ?_)
  refine lv_aload_n hx hb dX6_arriveAll_2 rfl (lv_at hl 1 rfl) ?_
  refine zw_get (C := RX6) (T := TX6) (N := 24) hx hb hts hin6 hown hE.1 hW mC_M rfl 19 (by decide) (hts (.fieldLink RX6 81 "UnionListModel" "under" "I") (by decide +kernel)) (fun _ h9 => h9) rfl dX6_arriveAll_3 ?_
  refine lv_istore_n (lv' := [(2, .int (m0 19 0)), (1, .int 0), (0, .ref (S0 + 9))]) hx hb dX6_arriveAll_6 rfl hl (by decide) rfl (fun ls hl => ?_)
  refine lv_iconst (v := 0) hx hb dX6_arriveAll_7 (by decide) ?_
  refine lv_istore_n (lv' := [(3, .int 0), (2, .int (m0 19 0)), (1, .int 0), (0, .ref (S0 + 9))]) hx hb dX6_arriveAll_8 rfl hl (by decide) rfl (fun ls hl => ?_)
  have lp9 : ∀ (f5 : Nat) (x1 : Int32) (x2 : Int32) (x3 : Int32) (m4 : mS) (H : Heap) (locs : List Loc) (ls : Array Slot), wX6_arriveAll_l9 Q f5 x1 x2 x3 m4 → zW D S0 (mR D S0 g m4) s.heap H locs → lv_has ls 5 [(3, .int x1), (2, .int x2), (1, .int x3), (0, .ref (S0 + 9))] → W p l e { frames := 4, cells := 0, slots := 8 * (0), locals := 91 } s m args below meth c H locs (0) (8 * (0)) (MQ below (va_Qi Q (zB D S0 (fun u => mR D S0 g u)) (zA S0)) args s (0) (8 * (0)) (zA S0)) (F0 m 9 ls []) := by
    intro f5
    induction f5 with
    | zero => intro x1 x2 x3 m4 H locs ls h; exact h.elim
    | succ f5 ih9 =>
      intro x1 x2 x3 m4 H locs ls h  hW hl
      unfold wX6_arriveAll_l9 at h
      refine lv_iload_n hx hb dX6_arriveAll_9 rfl (lv_at hl 0 rfl) ?_
      refine lv_iload_n hx hb dX6_arriveAll_10 rfl (lv_at hl 1 rfl) ?_
      refine lv_icmp_ge (tgt := 52) hx hb dX6_arriveAll_11 (by decide) (fun c_6 => ?_) (fun c_6 => ?_)
      · replace h := h.1 c_6
        refine lv_iconst (v := 0) hx hb dX6_arriveAll_52 (by decide) ?_
        refine lv_istore_n (lv' := [(3, .int 0), (2, .int x2), (1, .int x3), (0, .ref (S0 + 9))]) hx hb dX6_arriveAll_53 rfl hl (by decide) rfl (fun ls hl => ?_)
        refine lv_iconst (v := 0) hx hb dX6_arriveAll_54 (by decide) ?_
        refine lv_istore (lv' := [(4, .int 0), (3, .int 0), (2, .int x2), (1, .int x3), (0, .ref (S0 + 9))]) hx hb dX6_arriveAll_55 hl (by decide) rfl (fun ls hl => ?_)
        have lp57 : ∀ (f12 : Nat) (x7 : Int32) (x8 : Int32) (x9 : Int32) (x10 : Int32) (m11 : mS) (H : Heap) (locs : List Loc) (ls : Array Slot), wX6_arriveAll_l57 Q (fun u0 u1 u2 u3 => wX6_arriveAll_l9 Q f5 u0 u1 u2 u3) f12 x7 x8 x9 x10 m11 → zW D S0 (mR D S0 g m11) s.heap H locs → lv_has ls 5 [(4, .int x7), (3, .int x8), (2, .int x9), (1, .int x10), (0, .ref (S0 + 9))] → W p l e { frames := 4, cells := 0, slots := 8 * (0), locals := 91 } s m args below meth c H locs (0) (8 * (0)) (MQ below (va_Qi Q (zB D S0 (fun u => mR D S0 g u)) (zA S0)) args s (0) (8 * (0)) (zA S0)) (F0 m 57 ls []) := by
          intro f12
          induction f12 with
          | zero => intro x7 x8 x9 x10 m11 H locs ls h; exact h.elim
          | succ f12 ih57 =>
            intro x7 x8 x9 x10 m11 H locs ls h  hW hl
            unfold wX6_arriveAll_l57 at h
            refine lv_iload hx hb dX6_arriveAll_57 (lv_at hl 0 rfl) ?_
            refine lv_aload_n hx hb dX6_arriveAll_59 rfl (lv_at hl 4 rfl) ?_
            refine zw_get (C := RX6) (T := TX6) (N := 24) hx hb hts hin6 hown hE.1 hW mC_M rfl 19 (by decide) (hts (.fieldLink RX6 81 "UnionListModel" "under" "I") (by decide +kernel)) (fun _ h9 => h9) rfl dX6_arriveAll_60 ?_
            refine lv_icmp_ge (tgt := 128) hx hb dX6_arriveAll_63 (by decide) (fun c_13 => ?_) (fun c_13 => ?_)
            · replace h := h.1 c_13
              refine lv_aload_n hx hb dX6_arriveAll_128 rfl (lv_at hl 4 rfl) ?_
              refine lv_iload_n hx hb dX6_arriveAll_129 rfl (lv_at hl 1 rfl) ?_
              refine zw_put (C := RX6) (T := TX6) (N := 24) hx hb hts hin6 tyX6 tyX6_ok nmX6 hown hE.1 hW mC_M rfl 19 (by decide) (hts (.fieldLink RX6 81 "UnionListModel" "under" "I") (by decide +kernel)) (fun _ h9 => h9) rfl rfl rfl (Nat.le_of_ble_eq_true rfl) dX6_arriveAll_130 mP_19 (fun H locs hW => ?_)
              obtain ⟨m14, em14⟩ : ∃ y, y = mset m11 19 0 x8 := ⟨_, rfl⟩
              rw [← em14] at hW
              replace h := h m14 em14
              refine lv_iload_n hx hb dX6_arriveAll_133 rfl (lv_at hl 3 rfl) ?_
              refine W.widen (k := 0) (n := 8 * (0)) (by omega) (by omega) ?_
              exact (z_iret hx hb hr hlocks hW h dX6_arriveAll_134)
            · replace h := h.2 c_13
              refine lv_aload_n hx hb dX6_arriveAll_66 rfl (lv_at hl 4 rfl) ?_
              refine zw_get (C := RX6) (T := TX6) (N := 24) hx hb hts hin6 hown hE.1 hW mC_M rfl 18 (by decide) (hts (.fieldLink RX6 58 "UnionListModel" "day" "[I") (by decide +kernel)) (fun _ h9 => h9) rfl dX6_arriveAll_67 ?_
              refine lv_iload hx hb dX6_arriveAll_70 (lv_at hl 0 rfl) ?_
              obtain ⟨hb_15, h⟩ := h
              refine zw_iald hx hb hE.1 hW mC_18 hb_15 dX6_arriveAll_72 ?_
              refine lv_aload_n hx hb dX6_arriveAll_73 rfl (lv_at hl 4 rfl) ?_
              refine zw_get (C := RX6) (T := TX6) (N := 24) hx hb hts hin6 hown hE.1 hW mC_M rfl 22 (by decide) (hts (.fieldLink RX6 84 "UnionListModel" "now" "I") (by decide +kernel)) (fun _ h9 => h9) rfl dX6_arriveAll_74 ?_
              refine lv_icmp_le (tgt := 122) hx hb dX6_arriveAll_77 (by decide) (fun c_16 => ?_) (fun c_16 => ?_)
              · replace h := h.1 c_16
                refine lv_iinc (v := (x7 + 1)) (lv' := [(4, .int (x7 + 1)), (3, .int x8), (2, .int x9), (1, .int x10), (0, .ref (S0 + 9))]) hx hb dX6_arriveAll_122 hl (k := 0) rfl rfl (by decide) rfl (fun ls hl => ?_)
                refine lv_goto (tgt := 57) hx hb dX6_arriveAll_125 (by decide) ?_
                exact ih57 (x7 + 1) x8 x9 x10 m11 _ _ _ h  hW (lv_sub hl [0, 1, 2, 3, 4] rfl)
              · replace h := h.2 c_16
                refine lv_aload_n hx hb dX6_arriveAll_80 rfl (lv_at hl 4 rfl) ?_
                refine zw_get (C := RX6) (T := TX6) (N := 24) hx hb hts hin6 hown hE.1 hW mC_M rfl 16 (by decide) (hts (.fieldLink RX6 52 "UnionListModel" "kind" "[I") (by decide +kernel)) (fun _ h9 => h9) rfl dX6_arriveAll_81 ?_
                refine lv_iload_n hx hb dX6_arriveAll_84 rfl (lv_at hl 1 rfl) ?_
                refine lv_aload_n hx hb dX6_arriveAll_85 rfl (lv_at hl 4 rfl) ?_
                refine zw_get (C := RX6) (T := TX6) (N := 24) hx hb hts hin6 hown hE.1 hW mC_M rfl 16 (by decide) (hts (.fieldLink RX6 52 "UnionListModel" "kind" "[I") (by decide +kernel)) (fun _ h9 => h9) rfl dX6_arriveAll_86 ?_
                refine lv_iload hx hb dX6_arriveAll_89 (lv_at hl 0 rfl) ?_
                obtain ⟨hb_17, h⟩ := h
                refine zw_iald hx hb hE.1 hW mC_16 hb_17 dX6_arriveAll_91 ?_
                obtain ⟨hb_18, h⟩ := h
                refine zw_iast hx hb hE.1 hW mC_16 hb_18 dX6_arriveAll_92 mP_16 (fun H locs hW => ?_)
                obtain ⟨m19, em19⟩ : ∃ y, y = mset m11 16 x8.toNatClampNeg (m11 16 x7.toNatClampNeg) := ⟨_, rfl⟩
                rw [← em19] at hW
                replace h := h m19 em19
                refine lv_aload_n hx hb dX6_arriveAll_93 rfl (lv_at hl 4 rfl) ?_
                refine zw_get (C := RX6) (T := TX6) (N := 24) hx hb hts hin6 hown hE.1 hW mC_M rfl 17 (by decide) (hts (.fieldLink RX6 55 "UnionListModel" "what" "[I") (by decide +kernel)) (fun _ h9 => h9) rfl dX6_arriveAll_94 ?_
                refine lv_iload_n hx hb dX6_arriveAll_97 rfl (lv_at hl 1 rfl) ?_
                refine lv_aload_n hx hb dX6_arriveAll_98 rfl (lv_at hl 4 rfl) ?_
                refine zw_get (C := RX6) (T := TX6) (N := 24) hx hb hts hin6 hown hE.1 hW mC_M rfl 17 (by decide) (hts (.fieldLink RX6 55 "UnionListModel" "what" "[I") (by decide +kernel)) (fun _ h9 => h9) rfl dX6_arriveAll_99 ?_
                refine lv_iload hx hb dX6_arriveAll_102 (lv_at hl 0 rfl) ?_
                obtain ⟨hb_20, h⟩ := h
                refine zw_iald hx hb hE.1 hW mC_17 hb_20 dX6_arriveAll_104 ?_
                obtain ⟨hb_21, h⟩ := h
                refine zw_iast hx hb hE.1 hW mC_17 hb_21 dX6_arriveAll_105 mP_17 (fun H locs hW => ?_)
                obtain ⟨m22, em22⟩ : ∃ y, y = mset m19 17 x8.toNatClampNeg (m19 17 x7.toNatClampNeg) := ⟨_, rfl⟩
                rw [← em22] at hW
                replace h := h m22 em22
                refine lv_aload_n hx hb dX6_arriveAll_106 rfl (lv_at hl 4 rfl) ?_
                refine zw_get (C := RX6) (T := TX6) (N := 24) hx hb hts hin6 hown hE.1 hW mC_M rfl 18 (by decide) (hts (.fieldLink RX6 58 "UnionListModel" "day" "[I") (by decide +kernel)) (fun _ h9 => h9) rfl dX6_arriveAll_107 ?_
                refine lv_iload_n hx hb dX6_arriveAll_110 rfl (lv_at hl 1 rfl) ?_
                refine lv_aload_n hx hb dX6_arriveAll_111 rfl (lv_at hl 4 rfl) ?_
                refine zw_get (C := RX6) (T := TX6) (N := 24) hx hb hts hin6 hown hE.1 hW mC_M rfl 18 (by decide) (hts (.fieldLink RX6 58 "UnionListModel" "day" "[I") (by decide +kernel)) (fun _ h9 => h9) rfl dX6_arriveAll_112 ?_
                refine lv_iload hx hb dX6_arriveAll_115 (lv_at hl 0 rfl) ?_
                obtain ⟨hb_23, h⟩ := h
                refine zw_iald hx hb hE.1 hW mC_18 hb_23 dX6_arriveAll_117 ?_
                obtain ⟨hb_24, h⟩ := h
                refine zw_iast hx hb hE.1 hW mC_18 hb_24 dX6_arriveAll_118 mP_18 (fun H locs hW => ?_)
                obtain ⟨m25, em25⟩ : ∃ y, y = mset m22 18 x8.toNatClampNeg (m22 18 x7.toNatClampNeg) := ⟨_, rfl⟩
                rw [← em25] at hW
                replace h := h m25 em25
                refine lv_iinc (v := (x8 + 1)) (lv' := [(3, .int (x8 + 1)), (4, .int x7), (2, .int x9), (1, .int x10), (0, .ref (S0 + 9))]) hx hb dX6_arriveAll_119 hl (k := 1) rfl rfl (by decide) rfl (fun ls hl => ?_)
                refine lv_iinc (v := (x7 + 1)) (lv' := [(4, .int (x7 + 1)), (3, .int (x8 + 1)), (2, .int x9), (1, .int x10), (0, .ref (S0 + 9))]) hx hb dX6_arriveAll_122 hl (k := 1) rfl rfl (by decide) rfl (fun ls hl => ?_)
                refine lv_goto (tgt := 57) hx hb dX6_arriveAll_125 (by decide) ?_
                exact ih57 (x7 + 1) (x8 + 1) x9 x10 m25 _ _ _ h  hW (lv_sub hl [0, 1, 2, 3, 4] rfl)
        obtain ⟨f26, h⟩ := h
        exact lp57 f26 0 0 x2 x3 m4 _ _ _ h  hW (lv_sub hl [0, 1, 2, 3, 4] rfl)
      · replace h := h.2 c_6
        refine lv_aload_n hx hb dX6_arriveAll_14 rfl (lv_at hl 3 rfl) ?_
        refine zw_get (C := RX6) (T := TX6) (N := 24) hx hb hts hin6 hown hE.1 hW mC_M rfl 18 (by decide) (hts (.fieldLink RX6 58 "UnionListModel" "day" "[I") (by decide +kernel)) (fun _ h9 => h9) rfl dX6_arriveAll_15 ?_
        refine lv_iload_n hx hb dX6_arriveAll_18 rfl (lv_at hl 0 rfl) ?_
        obtain ⟨hb_27, h⟩ := h
        refine zw_iald hx hb hE.1 hW mC_18 hb_27 dX6_arriveAll_19 ?_
        refine lv_aload_n hx hb dX6_arriveAll_20 rfl (lv_at hl 3 rfl) ?_
        refine zw_get (C := RX6) (T := TX6) (N := 24) hx hb hts hin6 hown hE.1 hW mC_M rfl 22 (by decide) (hts (.fieldLink RX6 84 "UnionListModel" "now" "I") (by decide +kernel)) (fun _ h9 => h9) rfl dX6_arriveAll_21 ?_
        refine lv_icmp_ne (tgt := 46) hx hb dX6_arriveAll_24 (by decide) (fun c_28 => ?_) (fun c_28 => ?_)
        · replace h := h.2 c_28
          refine lv_iinc (v := (x1 + 1)) (lv' := [(3, .int (x1 + 1)), (2, .int x2), (1, .int x3), (0, .ref (S0 + 9))]) hx hb dX6_arriveAll_46 hl (k := 0) rfl rfl (by decide) rfl (fun ls hl => ?_)
          refine lv_goto (tgt := 9) hx hb dX6_arriveAll_49 (by decide) ?_
          exact ih9 (x1 + 1) x2 x3 m4 _ _ _ h  hW (lv_sub hl [0, 1, 2, 3] rfl)
        · replace h := h.1 c_28
          refine lv_aload_n hx hb dX6_arriveAll_27 rfl (lv_at hl 3 rfl) ?_
          refine lv_aload_n hx hb dX6_arriveAll_28 rfl (lv_at hl 3 rfl) ?_
          refine zw_get (C := RX6) (T := TX6) (N := 24) hx hb hts hin6 hown hE.1 hW mC_M rfl 16 (by decide) (hts (.fieldLink RX6 52 "UnionListModel" "kind" "[I") (by decide +kernel)) (fun _ h9 => h9) rfl dX6_arriveAll_29 ?_
          refine lv_iload_n hx hb dX6_arriveAll_32 rfl (lv_at hl 0 rfl) ?_
          obtain ⟨hb_29, h⟩ := h
          refine zw_iald hx hb hE.1 hW mC_16 hb_29 dX6_arriveAll_33 ?_
          refine lv_aload_n hx hb dX6_arriveAll_34 rfl (lv_at hl 3 rfl) ?_
          refine zw_get (C := RX6) (T := TX6) (N := 24) hx hb hts hin6 hown hE.1 hW mC_M rfl 17 (by decide) (hts (.fieldLink RX6 55 "UnionListModel" "what" "[I") (by decide +kernel)) (fun _ h9 => h9) rfl dX6_arriveAll_35 ?_
          refine lv_iload_n hx hb dX6_arriveAll_38 rfl (lv_at hl 0 rfl) ?_
          obtain ⟨hb_30, h⟩ := h
          refine zw_iald hx hb hE.1 hW mC_17 hb_30 dX6_arriveAll_39 ?_
          refine zc_v (va_runV (As := [.int (m4 16 x1.toNatClampNeg), .int (m4 17 x1.toNatClampNeg)]) (rest := []) ⟨hx, hb, hml, hown, hts⟩ (cX6_arrive_ok l hlt D S0 g m4 (m4 16 x1.toNatClampNeg) (m4 17 x1.toNatClampNeg) _ h) (cwV 2 hts gX6_arriveAll_X6_arrive rfl rfl rfl (by decide +kernel) ⟨Nat.le_of_ble_eq_true rfl, Nat.le_of_ble_eq_true rfl⟩) (zpreV (q := (RX6, TX6, 24)) hE hs hW mC_M rfl) rfl rfl hl.1 rfl (lv_room (Nat.le_of_ble_eq_true rfl)) dX6_arriveAll_40 ⟨by show _ ≤ 0; omega, by show _ ≤ 8 * (0); omega⟩) hW (fun m32 H locs h hW => ?_)
          refine W.widen (k := 0) (n := 8 * (0)) (by omega) (by omega) ?_
          refine lv_iinc (v := (x3 + 1)) (lv' := [(1, .int (x3 + 1)), (3, .int x1), (2, .int x2), (0, .ref (S0 + 9))]) hx hb dX6_arriveAll_43 hl (k := 2) rfl rfl (by decide) rfl (fun ls hl => ?_)
          refine lv_iinc (v := (x1 + 1)) (lv' := [(3, .int (x1 + 1)), (1, .int (x3 + 1)), (2, .int x2), (0, .ref (S0 + 9))]) hx hb dX6_arriveAll_46 hl (k := 1) rfl rfl (by decide) rfl (fun ls hl => ?_)
          refine lv_goto (tgt := 9) hx hb dX6_arriveAll_49 (by decide) ?_
          exact ih9 (x1 + 1) x2 (x3 + 1) m32 _ _ _ h  hW (lv_sub hl [0, 2, 1, 3] rfl)
  obtain ⟨f33, h⟩ := h
  exact lp9 f33 0 (m0 19 0) 0 m0 _ _ _ h  hW (lv_sub hl [0, 1, 2, 3] rfl)

def wX6_pass_l47 (p1 : Int32) (Q : Int32 → mS → Prop) (K : Int32 → Int32 → mS → Prop) : Nat → Int32 → Int32 → Int32 → mS → Prop
  | 0, _, _, _, _ => False
  | f17 + 1, x13, x14, x15, m16 => ((6 ≤ x13 → (wX6_arriveAll m16 (fun r19 m20 => (K (x14 + 1) (x15 + r19) m20)))) ∧ (¬ 6 ≤ x13 → ((((m16 22 0) - (m16 22 0) / 90 * 90) = 0 → (vp_in x13 6 ∧ (∀ m26 : mS, m26 = mset m16 21 x13.toNatClampNeg 0 → (wX6_pass_l47 p1 Q K f17 (x13 + 1) x14 x15 m26)))) ∧ (¬ ((m16 22 0) - (m16 22 0) / 90 * 90) = 0 → (vp_in x13 6 ∧ (vp_in x13 6 ∧ (∀ m24 : mS, m24 = mset m16 21 x13.toNatClampNeg (m16 21 x13.toNatClampNeg) → (wX6_pass_l47 p1 Q K f17 (x13 + 1) x14 x15 m24))))))))
def wX6_pass_l29 (p1 : Int32) (Q : Int32 → mS → Prop) : Nat → Int32 → Int32 → mS → Prop
  | 0, _, _, _ => False
  | f10 + 1, x7, x8, m9 => ((p1 ≤ x7 → Q x8 m9) ∧ (¬ p1 ≤ x7 → (∀ m12 : mS, m12 = mset m9 22 0 ((m9 22 0) + 1) → (∃ f27 : Nat, wX6_pass_l47 p1 Q (fun u0 u1 u2 => wX6_pass_l29 p1 Q f10 u0 u1 u2) f27 0 x7 x8 m12))))
def wX6_pass (m0 : mS) (p1 : Int32) (Q : Int32 → mS → Prop) : Prop := (wX6_between m0 p1 1 100 (fun r1 m2 => ((r1 = 0 → (wX6_holds m2 1 (fun r4 m5 => ((r4 = 0 → (∃ f28 : Nat, wX6_pass_l29 p1 Q f28 0 0 m5)) ∧ (¬ r4 = 0 → Q (-1) m5))))) ∧ (¬ r1 = 0 → (wX6_holds m2 0 (fun r29 m30 => ((r29 = 0 → (∃ f53 : Nat, wX6_pass_l29 p1 Q f53 0 0 m30)) ∧ (¬ r29 = 0 → Q (-1) m30))))))))
theorem hin_X6_pass_6 : ∀ w ∈ u_ws RX6 TX6 24, w ∈ wsX6_pass := by decide +kernel
set_option maxHeartbeats 8000000 in
set_option maxRecDepth 100000 in
theorem cX6_pass_ok (l : Launch) (hlt : l.stackTraces = false) (D : zD) (S0 : Nat) (g : zF) (m0 : mS) (p1 : Int32)  (Q : Int32 → mS → Prop) (h : wX6_pass m0 p1 Q) : Met l yX6_pass wsX6_pass { frames := 5, cells := 0, slots := 8 * (0), locals := 115 } (zPc D S0 (mR D S0 g m0) [.ref (S0 + 9), .int p1]) (va_Qi Q (zB D S0 (fun u => mR D S0 g u)) (zA S0)) (0) (8 * (0)) (zA S0) := by
  refine zMet (cc := cX6_pass) (maxL := 5) (ret := (some .int)) (by decide) rfl (Nat.le_of_ble_eq_true rfl) (fun p e s m args below meth c ls hx hb hr hml hown hts hlocks hnm hs hE hW hl => ?_)
  have hin6 := hin_X6_pass_6
  replace hl : lv_has ls 5 [(0, .ref (S0 + 9)), (1, .int p1)] := hl
  unfold wX6_pass at h
  refine lv_aload_n hx hb dX6_pass_0 rfl (lv_at hl 0 rfl) ?_
  refine lv_aload_n hx hb dX6_pass_1 rfl (lv_at hl 0 rfl) ?_
  refine lv_iload_n hx hb dX6_pass_2 rfl (lv_at hl 1 rfl) ?_
  refine lv_iconst (v := 1) hx hb dX6_pass_3 (by decide) ?_
  refine lv_bipush (v := 100) hx hb dX6_pass_4 (by decide) ?_
  refine zc_i (va_runV (As := [.int p1, .int 1, .int 100]) (rest := [.ref (S0 + 9)]) ⟨hx, hb, hml, hown, hts⟩ (cX6_between_ok l hlt D S0 g m0 p1 1 100 _ h) (cwV 3 hts gX6_pass_X6_between rfl rfl rfl (by decide +kernel) ⟨Nat.le_of_ble_eq_true rfl, Nat.le_of_ble_eq_true rfl⟩) (zpreV (q := (RX6, TX6, 24)) hE hs hW mC_M rfl) rfl rfl hl.1 rfl (lv_room (Nat.le_of_ble_eq_true rfl)) dX6_pass_6 ⟨by show _ ≤ 0; omega, by show _ ≤ 8 * (0); omega⟩) hW (fun r1 m2 H locs h hW => ?_)
  obtain ⟨h, hz_r1⟩ := h
  refine W.widen (k := 0) (n := 8 * (0)) (by omega) (by omega) ?_
  refine lv_if_eq (tgt := 16) hx hb dX6_pass_9 (by decide) (fun c_3 => ?_) (fun c_3 => ?_)
  · replace h := h.1 c_3
    refine lv_iconst (v := 1) hx hb dX6_pass_16 (by decide) ?_
    refine zc_i (va_runV (As := [.int 1]) (rest := []) ⟨hx, hb, hml, hown, hts⟩ (cX6_holds_ok l hlt D S0 g m2 1 _ h) (cwV 1 hts gX6_pass_X6_holds rfl rfl rfl (by decide +kernel) ⟨Nat.le_of_ble_eq_true rfl, Nat.le_of_ble_eq_true rfl⟩) (zpreV (q := (RX6, TX6, 24)) hE hs hW mC_M rfl) rfl rfl hl.1 rfl (lv_room (Nat.le_of_ble_eq_true rfl)) dX6_pass_17 ⟨by show _ ≤ 0; omega, by show _ ≤ 8 * (0); omega⟩) hW (fun r4 m5 H locs h hW => ?_)
    obtain ⟨h, hz_r4⟩ := h
    refine W.widen (k := 0) (n := 8 * (0)) (by omega) (by omega) ?_
    refine lv_if_eq (tgt := 25) hx hb dX6_pass_20 (by decide) (fun c_6 => ?_) (fun c_6 => ?_)
    · replace h := h.1 c_6
      refine lv_iconst (v := 0) hx hb dX6_pass_25 (by decide) ?_
      refine lv_istore_n (lv' := [(2, .int 0), (0, .ref (S0 + 9)), (1, .int p1)]) hx hb dX6_pass_26 rfl hl (by decide) rfl (fun ls hl => ?_)
      refine lv_iconst (v := 0) hx hb dX6_pass_27 (by decide) ?_
      refine lv_istore_n (lv' := [(3, .int 0), (2, .int 0), (0, .ref (S0 + 9)), (1, .int p1)]) hx hb dX6_pass_28 rfl hl (by decide) rfl (fun ls hl => ?_)
      have lp29 : ∀ (f10 : Nat) (x7 : Int32) (x8 : Int32) (m9 : mS) (H : Heap) (locs : List Loc) (ls : Array Slot), wX6_pass_l29 p1 Q f10 x7 x8 m9 → zW D S0 (mR D S0 g m9) s.heap H locs → lv_has ls 5 [(3, .int x7), (2, .int x8), (0, .ref (S0 + 9)), (1, .int p1)] → W p l e { frames := 5, cells := 0, slots := 8 * (0), locals := 115 } s m args below meth c H locs (0) (8 * (0)) (MQ below (va_Qi Q (zB D S0 (fun u => mR D S0 g u)) (zA S0)) args s (0) (8 * (0)) (zA S0)) (F0 m 29 ls []) := by
        intro f10
        induction f10 with
        | zero => intro x7 x8 m9 H locs ls h; exact h.elim
        | succ f10 ih29 =>
          intro x7 x8 m9 H locs ls h  hW hl
          unfold wX6_pass_l29 at h
          refine lv_iload_n hx hb dX6_pass_29 rfl (lv_at hl 0 rfl) ?_
          refine lv_iload_n hx hb dX6_pass_30 rfl (lv_at hl 3 rfl) ?_
          refine lv_icmp_ge (tgt := 101) hx hb dX6_pass_31 (by decide) (fun c_11 => ?_) (fun c_11 => ?_)
          · replace h := h.1 c_11
            refine lv_iload_n hx hb dX6_pass_101 rfl (lv_at hl 1 rfl) ?_
            refine W.widen (k := 0) (n := 8 * (0)) (by omega) (by omega) ?_
            exact (z_iret hx hb hr hlocks hW h dX6_pass_102)
          · replace h := h.2 c_11
            refine lv_aload_n hx hb dX6_pass_34 rfl (lv_at hl 2 rfl) ?_
            refine lv_dup hx hb dX6_pass_35 rfl ?_
            refine zw_get (C := RX6) (T := TX6) (N := 24) hx hb hts hin6 hown hE.1 hW mC_M rfl 22 (by decide) (hts (.fieldLink RX6 84 "UnionListModel" "now" "I") (by decide +kernel)) (fun _ h9 => h9) rfl dX6_pass_36 ?_
            refine lv_iconst (v := 1) hx hb dX6_pass_39 (by decide) ?_
            refine lv_iadd hx hb dX6_pass_40 ?_
            refine zw_put (C := RX6) (T := TX6) (N := 24) hx hb hts hin6 tyX6 tyX6_ok nmX6 hown hE.1 hW mC_M rfl 22 (by decide) (hts (.fieldLink RX6 84 "UnionListModel" "now" "I") (by decide +kernel)) (fun _ h9 => h9) rfl rfl rfl (Nat.le_of_ble_eq_true rfl) dX6_pass_41 mP_22 (fun H locs hW => ?_)
            obtain ⟨m12, em12⟩ : ∃ y, y = mset m9 22 0 ((m9 22 0) + 1) := ⟨_, rfl⟩
            rw [← em12] at hW
            replace h := h m12 em12
            refine lv_iconst (v := 0) hx hb dX6_pass_44 (by decide) ?_
            refine lv_istore (lv' := [(4, .int 0), (3, .int x7), (2, .int x8), (0, .ref (S0 + 9)), (1, .int p1)]) hx hb dX6_pass_45 hl (by decide) rfl (fun ls hl => ?_)
            have lp47 : ∀ (f17 : Nat) (x13 : Int32) (x14 : Int32) (x15 : Int32) (m16 : mS) (H : Heap) (locs : List Loc) (ls : Array Slot), wX6_pass_l47 p1 Q (fun u0 u1 u2 => wX6_pass_l29 p1 Q f10 u0 u1 u2) f17 x13 x14 x15 m16 → zW D S0 (mR D S0 g m16) s.heap H locs → lv_has ls 5 [(4, .int x13), (3, .int x14), (2, .int x15), (0, .ref (S0 + 9)), (1, .int p1)] → W p l e { frames := 5, cells := 0, slots := 8 * (0), locals := 115 } s m args below meth c H locs (0) (8 * (0)) (MQ below (va_Qi Q (zB D S0 (fun u => mR D S0 g u)) (zA S0)) args s (0) (8 * (0)) (zA S0)) (F0 m 47 ls []) := by
              intro f17
              induction f17 with
              | zero => intro x13 x14 x15 m16 H locs ls h; exact h.elim
              | succ f17 ih47 =>
                intro x13 x14 x15 m16 H locs ls h  hW hl
                unfold wX6_pass_l47 at h
                refine lv_iload hx hb dX6_pass_47 (lv_at hl 0 rfl) ?_
                refine lv_bipush (v := 6) hx hb dX6_pass_49 (by decide) ?_
                refine lv_icmp_ge (tgt := 88) hx hb dX6_pass_51 (by decide) (fun c_18 => ?_) (fun c_18 => ?_)
                · replace h := h.1 c_18
                  refine lv_iload_n hx hb dX6_pass_88 rfl (lv_at hl 2 rfl) ?_
                  refine lv_aload_n hx hb dX6_pass_89 rfl (lv_at hl 3 rfl) ?_
                  refine zc_i (va_runV (As := []) (rest := [.int x15]) ⟨hx, hb, hml, hown, hts⟩ (cX6_arriveAll_ok l hlt D S0 g m16 _ h) (cwV 0 hts gX6_pass_X6_arriveAll rfl rfl rfl (by decide +kernel) ⟨Nat.le_of_ble_eq_true rfl, Nat.le_of_ble_eq_true rfl⟩) (zpreV (q := (RX6, TX6, 24)) hE hs hW mC_M rfl) rfl rfl hl.1 rfl (lv_room (Nat.le_of_ble_eq_true rfl)) dX6_pass_90 ⟨by show _ ≤ 0; omega, by show _ ≤ 8 * (0); omega⟩) hW (fun r19 m20 H locs h hW => ?_)
                  refine W.widen (k := 0) (n := 8 * (0)) (by omega) (by omega) ?_
                  refine lv_iadd hx hb dX6_pass_93 ?_
                  refine lv_istore_n (lv' := [(2, .int (x15 + r19)), (4, .int x13), (3, .int x14), (0, .ref (S0 + 9)), (1, .int p1)]) hx hb dX6_pass_94 rfl hl (by decide) rfl (fun ls hl => ?_)
                  refine lv_iinc (v := (x14 + 1)) (lv' := [(3, .int (x14 + 1)), (2, .int (x15 + r19)), (4, .int x13), (0, .ref (S0 + 9)), (1, .int p1)]) hx hb dX6_pass_95 hl (k := 2) rfl rfl (by decide) rfl (fun ls hl => ?_)
                  refine lv_goto (tgt := 29) hx hb dX6_pass_98 (by decide) ?_
                  exact ih29 (x14 + 1) (x15 + r19) m20 _ _ _ h  hW (lv_sub hl [0, 1, 3, 4] rfl)
                · replace h := h.2 c_18
                  refine lv_aload_n hx hb dX6_pass_54 rfl (lv_at hl 3 rfl) ?_
                  refine zw_get (C := RX6) (T := TX6) (N := 24) hx hb hts hin6 hown hE.1 hW mC_M rfl 21 (by decide) (hts (.fieldLink RX6 64 "UnionListModel" "spared" "[I") (by decide +kernel)) (fun _ h9 => h9) rfl dX6_pass_55 ?_
                  refine lv_iload hx hb dX6_pass_58 (lv_at hl 0 rfl) ?_
                  refine lv_aload_n hx hb dX6_pass_60 rfl (lv_at hl 3 rfl) ?_
                  refine zw_get (C := RX6) (T := TX6) (N := 24) hx hb hts hin6 hown hE.1 hW mC_M rfl 22 (by decide) (hts (.fieldLink RX6 84 "UnionListModel" "now" "I") (by decide +kernel)) (fun _ h9 => h9) rfl dX6_pass_61 ?_
                  refine lv_bipush (v := 90) hx hb dX6_pass_64 (by decide) ?_
                  refine lv_irem hx hb dX6_pass_66 (by decide) ?_
                  refine lv_if_ne (tgt := 74) hx hb dX6_pass_67 (by decide) (fun c_21 => ?_) (fun c_21 => ?_)
                  · replace h := h.2 c_21
                    refine lv_aload_n hx hb dX6_pass_74 rfl (lv_at hl 3 rfl) ?_
                    refine zw_get (C := RX6) (T := TX6) (N := 24) hx hb hts hin6 hown hE.1 hW mC_M rfl 21 (by decide) (hts (.fieldLink RX6 64 "UnionListModel" "spared" "[I") (by decide +kernel)) (fun _ h9 => h9) rfl dX6_pass_75 ?_
                    refine lv_iload hx hb dX6_pass_78 (lv_at hl 0 rfl) ?_
                    obtain ⟨hb_22, h⟩ := h
                    refine zw_iald hx hb hE.1 hW mC_21 hb_22 dX6_pass_80 ?_
                    obtain ⟨hb_23, h⟩ := h
                    refine zw_iast hx hb hE.1 hW mC_21 hb_23 dX6_pass_81 mP_21 (fun H locs hW => ?_)
                    obtain ⟨m24, em24⟩ : ∃ y, y = mset m16 21 x13.toNatClampNeg (m16 21 x13.toNatClampNeg) := ⟨_, rfl⟩
                    rw [← em24] at hW
                    replace h := h m24 em24
                    refine lv_iinc (v := (x13 + 1)) (lv' := [(4, .int (x13 + 1)), (3, .int x14), (2, .int x15), (0, .ref (S0 + 9)), (1, .int p1)]) hx hb dX6_pass_82 hl (k := 0) rfl rfl (by decide) rfl (fun ls hl => ?_)
                    refine lv_goto (tgt := 47) hx hb dX6_pass_85 (by decide) ?_
                    exact ih47 (x13 + 1) x14 x15 m24 _ _ _ h  hW (lv_sub hl [0, 1, 2, 3, 4] rfl)
                  · replace h := h.1 c_21
                    refine lv_iconst (v := 0) hx hb dX6_pass_70 (by decide) ?_
                    refine lv_goto (tgt := 81) hx hb dX6_pass_71 (by decide) ?_
                    obtain ⟨hb_25, h⟩ := h
                    refine zw_iast hx hb hE.1 hW mC_21 hb_25 dX6_pass_81 mP_21 (fun H locs hW => ?_)
                    obtain ⟨m26, em26⟩ : ∃ y, y = mset m16 21 x13.toNatClampNeg 0 := ⟨_, rfl⟩
                    rw [← em26] at hW
                    replace h := h m26 em26
                    refine lv_iinc (v := (x13 + 1)) (lv' := [(4, .int (x13 + 1)), (3, .int x14), (2, .int x15), (0, .ref (S0 + 9)), (1, .int p1)]) hx hb dX6_pass_82 hl (k := 0) rfl rfl (by decide) rfl (fun ls hl => ?_)
                    refine lv_goto (tgt := 47) hx hb dX6_pass_85 (by decide) ?_
                    exact ih47 (x13 + 1) x14 x15 m26 _ _ _ h  hW (lv_sub hl [0, 1, 2, 3, 4] rfl)
            obtain ⟨f27, h⟩ := h
            exact lp47 f27 0 x7 x8 m12 _ _ _ h  hW (lv_sub hl [0, 1, 2, 3, 4] rfl)
      obtain ⟨f28, h⟩ := h
      exact lp29 f28 0 0 m5 _ _ _ h  hW (lv_sub hl [0, 1, 2, 3] rfl)
    · replace h := h.2 c_6
      refine lv_iconst (v := (-1)) hx hb dX6_pass_23 (by decide) ?_
      refine W.widen (k := 0) (n := 8 * (0)) (by omega) (by omega) ?_
      exact (z_iret hx hb hr hlocks hW h dX6_pass_24)
  · replace h := h.2 c_3
    refine lv_iconst (v := 0) hx hb dX6_pass_12 (by decide) ?_
    refine lv_goto (tgt := 17) hx hb dX6_pass_13 (by decide) ?_
    refine zc_i (va_runV (As := [.int 0]) (rest := []) ⟨hx, hb, hml, hown, hts⟩ (cX6_holds_ok l hlt D S0 g m2 0 _ h) (cwV 1 hts gX6_pass_X6_holds rfl rfl rfl (by decide +kernel) ⟨Nat.le_of_ble_eq_true rfl, Nat.le_of_ble_eq_true rfl⟩) (zpreV (q := (RX6, TX6, 24)) hE hs hW mC_M rfl) rfl rfl hl.1 rfl (lv_room (Nat.le_of_ble_eq_true rfl)) dX6_pass_17 ⟨by show _ ≤ 0; omega, by show _ ≤ 8 * (0); omega⟩) hW (fun r29 m30 H locs h hW => ?_)
    obtain ⟨h, hz_r29⟩ := h
    refine W.widen (k := 0) (n := 8 * (0)) (by omega) (by omega) ?_
    refine lv_if_eq (tgt := 25) hx hb dX6_pass_20 (by decide) (fun c_31 => ?_) (fun c_31 => ?_)
    · replace h := h.1 c_31
      refine lv_iconst (v := 0) hx hb dX6_pass_25 (by decide) ?_
      refine lv_istore_n (lv' := [(2, .int 0), (0, .ref (S0 + 9)), (1, .int p1)]) hx hb dX6_pass_26 rfl hl (by decide) rfl (fun ls hl => ?_)
      refine lv_iconst (v := 0) hx hb dX6_pass_27 (by decide) ?_
      refine lv_istore_n (lv' := [(3, .int 0), (2, .int 0), (0, .ref (S0 + 9)), (1, .int p1)]) hx hb dX6_pass_28 rfl hl (by decide) rfl (fun ls hl => ?_)
      have lp29 : ∀ (f35 : Nat) (x32 : Int32) (x33 : Int32) (m34 : mS) (H : Heap) (locs : List Loc) (ls : Array Slot), wX6_pass_l29 p1 Q f35 x32 x33 m34 → zW D S0 (mR D S0 g m34) s.heap H locs → lv_has ls 5 [(3, .int x32), (2, .int x33), (0, .ref (S0 + 9)), (1, .int p1)] → W p l e { frames := 5, cells := 0, slots := 8 * (0), locals := 115 } s m args below meth c H locs (0) (8 * (0)) (MQ below (va_Qi Q (zB D S0 (fun u => mR D S0 g u)) (zA S0)) args s (0) (8 * (0)) (zA S0)) (F0 m 29 ls []) := by
        intro f35
        induction f35 with
        | zero => intro x32 x33 m34 H locs ls h; exact h.elim
        | succ f35 ih29 =>
          intro x32 x33 m34 H locs ls h  hW hl
          unfold wX6_pass_l29 at h
          refine lv_iload_n hx hb dX6_pass_29 rfl (lv_at hl 0 rfl) ?_
          refine lv_iload_n hx hb dX6_pass_30 rfl (lv_at hl 3 rfl) ?_
          refine lv_icmp_ge (tgt := 101) hx hb dX6_pass_31 (by decide) (fun c_36 => ?_) (fun c_36 => ?_)
          · replace h := h.1 c_36
            refine lv_iload_n hx hb dX6_pass_101 rfl (lv_at hl 1 rfl) ?_
            refine W.widen (k := 0) (n := 8 * (0)) (by omega) (by omega) ?_
            exact (z_iret hx hb hr hlocks hW h dX6_pass_102)
          · replace h := h.2 c_36
            refine lv_aload_n hx hb dX6_pass_34 rfl (lv_at hl 2 rfl) ?_
            refine lv_dup hx hb dX6_pass_35 rfl ?_
            refine zw_get (C := RX6) (T := TX6) (N := 24) hx hb hts hin6 hown hE.1 hW mC_M rfl 22 (by decide) (hts (.fieldLink RX6 84 "UnionListModel" "now" "I") (by decide +kernel)) (fun _ h9 => h9) rfl dX6_pass_36 ?_
            refine lv_iconst (v := 1) hx hb dX6_pass_39 (by decide) ?_
            refine lv_iadd hx hb dX6_pass_40 ?_
            refine zw_put (C := RX6) (T := TX6) (N := 24) hx hb hts hin6 tyX6 tyX6_ok nmX6 hown hE.1 hW mC_M rfl 22 (by decide) (hts (.fieldLink RX6 84 "UnionListModel" "now" "I") (by decide +kernel)) (fun _ h9 => h9) rfl rfl rfl (Nat.le_of_ble_eq_true rfl) dX6_pass_41 mP_22 (fun H locs hW => ?_)
            obtain ⟨m37, em37⟩ : ∃ y, y = mset m34 22 0 ((m34 22 0) + 1) := ⟨_, rfl⟩
            rw [← em37] at hW
            replace h := h m37 em37
            refine lv_iconst (v := 0) hx hb dX6_pass_44 (by decide) ?_
            refine lv_istore (lv' := [(4, .int 0), (3, .int x32), (2, .int x33), (0, .ref (S0 + 9)), (1, .int p1)]) hx hb dX6_pass_45 hl (by decide) rfl (fun ls hl => ?_)
            have lp47 : ∀ (f42 : Nat) (x38 : Int32) (x39 : Int32) (x40 : Int32) (m41 : mS) (H : Heap) (locs : List Loc) (ls : Array Slot), wX6_pass_l47 p1 Q (fun u0 u1 u2 => wX6_pass_l29 p1 Q f35 u0 u1 u2) f42 x38 x39 x40 m41 → zW D S0 (mR D S0 g m41) s.heap H locs → lv_has ls 5 [(4, .int x38), (3, .int x39), (2, .int x40), (0, .ref (S0 + 9)), (1, .int p1)] → W p l e { frames := 5, cells := 0, slots := 8 * (0), locals := 115 } s m args below meth c H locs (0) (8 * (0)) (MQ below (va_Qi Q (zB D S0 (fun u => mR D S0 g u)) (zA S0)) args s (0) (8 * (0)) (zA S0)) (F0 m 47 ls []) := by
              intro f42
              induction f42 with
              | zero => intro x38 x39 x40 m41 H locs ls h; exact h.elim
              | succ f42 ih47 =>
                intro x38 x39 x40 m41 H locs ls h  hW hl
                unfold wX6_pass_l47 at h
                refine lv_iload hx hb dX6_pass_47 (lv_at hl 0 rfl) ?_
                refine lv_bipush (v := 6) hx hb dX6_pass_49 (by decide) ?_
                refine lv_icmp_ge (tgt := 88) hx hb dX6_pass_51 (by decide) (fun c_43 => ?_) (fun c_43 => ?_)
                · replace h := h.1 c_43
                  refine lv_iload_n hx hb dX6_pass_88 rfl (lv_at hl 2 rfl) ?_
                  refine lv_aload_n hx hb dX6_pass_89 rfl (lv_at hl 3 rfl) ?_
                  refine zc_i (va_runV (As := []) (rest := [.int x40]) ⟨hx, hb, hml, hown, hts⟩ (cX6_arriveAll_ok l hlt D S0 g m41 _ h) (cwV 0 hts gX6_pass_X6_arriveAll rfl rfl rfl (by decide +kernel) ⟨Nat.le_of_ble_eq_true rfl, Nat.le_of_ble_eq_true rfl⟩) (zpreV (q := (RX6, TX6, 24)) hE hs hW mC_M rfl) rfl rfl hl.1 rfl (lv_room (Nat.le_of_ble_eq_true rfl)) dX6_pass_90 ⟨by show _ ≤ 0; omega, by show _ ≤ 8 * (0); omega⟩) hW (fun r44 m45 H locs h hW => ?_)
                  refine W.widen (k := 0) (n := 8 * (0)) (by omega) (by omega) ?_
                  refine lv_iadd hx hb dX6_pass_93 ?_
                  refine lv_istore_n (lv' := [(2, .int (x40 + r44)), (4, .int x38), (3, .int x39), (0, .ref (S0 + 9)), (1, .int p1)]) hx hb dX6_pass_94 rfl hl (by decide) rfl (fun ls hl => ?_)
                  refine lv_iinc (v := (x39 + 1)) (lv' := [(3, .int (x39 + 1)), (2, .int (x40 + r44)), (4, .int x38), (0, .ref (S0 + 9)), (1, .int p1)]) hx hb dX6_pass_95 hl (k := 2) rfl rfl (by decide) rfl (fun ls hl => ?_)
                  refine lv_goto (tgt := 29) hx hb dX6_pass_98 (by decide) ?_
                  exact ih29 (x39 + 1) (x40 + r44) m45 _ _ _ h  hW (lv_sub hl [0, 1, 3, 4] rfl)
                · replace h := h.2 c_43
                  refine lv_aload_n hx hb dX6_pass_54 rfl (lv_at hl 3 rfl) ?_
                  refine zw_get (C := RX6) (T := TX6) (N := 24) hx hb hts hin6 hown hE.1 hW mC_M rfl 21 (by decide) (hts (.fieldLink RX6 64 "UnionListModel" "spared" "[I") (by decide +kernel)) (fun _ h9 => h9) rfl dX6_pass_55 ?_
                  refine lv_iload hx hb dX6_pass_58 (lv_at hl 0 rfl) ?_
                  refine lv_aload_n hx hb dX6_pass_60 rfl (lv_at hl 3 rfl) ?_
                  refine zw_get (C := RX6) (T := TX6) (N := 24) hx hb hts hin6 hown hE.1 hW mC_M rfl 22 (by decide) (hts (.fieldLink RX6 84 "UnionListModel" "now" "I") (by decide +kernel)) (fun _ h9 => h9) rfl dX6_pass_61 ?_
                  refine lv_bipush (v := 90) hx hb dX6_pass_64 (by decide) ?_
                  refine lv_irem hx hb dX6_pass_66 (by decide) ?_
                  refine lv_if_ne (tgt := 74) hx hb dX6_pass_67 (by decide) (fun c_46 => ?_) (fun c_46 => ?_)
                  · replace h := h.2 c_46
                    refine lv_aload_n hx hb dX6_pass_74 rfl (lv_at hl 3 rfl) ?_
                    refine zw_get (C := RX6) (T := TX6) (N := 24) hx hb hts hin6 hown hE.1 hW mC_M rfl 21 (by decide) (hts (.fieldLink RX6 64 "UnionListModel" "spared" "[I") (by decide +kernel)) (fun _ h9 => h9) rfl dX6_pass_75 ?_
                    refine lv_iload hx hb dX6_pass_78 (lv_at hl 0 rfl) ?_
                    obtain ⟨hb_47, h⟩ := h
                    refine zw_iald hx hb hE.1 hW mC_21 hb_47 dX6_pass_80 ?_
                    obtain ⟨hb_48, h⟩ := h
                    refine zw_iast hx hb hE.1 hW mC_21 hb_48 dX6_pass_81 mP_21 (fun H locs hW => ?_)
                    obtain ⟨m49, em49⟩ : ∃ y, y = mset m41 21 x38.toNatClampNeg (m41 21 x38.toNatClampNeg) := ⟨_, rfl⟩
                    rw [← em49] at hW
                    replace h := h m49 em49
                    refine lv_iinc (v := (x38 + 1)) (lv' := [(4, .int (x38 + 1)), (3, .int x39), (2, .int x40), (0, .ref (S0 + 9)), (1, .int p1)]) hx hb dX6_pass_82 hl (k := 0) rfl rfl (by decide) rfl (fun ls hl => ?_)
                    refine lv_goto (tgt := 47) hx hb dX6_pass_85 (by decide) ?_
                    exact ih47 (x38 + 1) x39 x40 m49 _ _ _ h  hW (lv_sub hl [0, 1, 2, 3, 4] rfl)
                  · replace h := h.1 c_46
                    refine lv_iconst (v := 0) hx hb dX6_pass_70 (by decide) ?_
                    refine lv_goto (tgt := 81) hx hb dX6_pass_71 (by decide) ?_
                    obtain ⟨hb_50, h⟩ := h
                    refine zw_iast hx hb hE.1 hW mC_21 hb_50 dX6_pass_81 mP_21 (fun H locs hW => ?_)
                    obtain ⟨m51, em51⟩ : ∃ y, y = mset m41 21 x38.toNatClampNeg 0 := ⟨_, rfl⟩
                    rw [← em51] at hW
                    replace h := h m51 em51
                    refine lv_iinc (v := (x38 + 1)) (lv' := [(4, .int (x38 + 1)), (3, .int x39), (2, .int x40), (0, .ref (S0 + 9)), (1, .int p1)]) hx hb dX6_pass_82 hl (k := 0) rfl rfl (by decide) rfl (fun ls hl => ?_)
                    refine lv_goto (tgt := 47) hx hb dX6_pass_85 (by decide) ?_
                    exact ih47 (x38 + 1) x39 x40 m51 _ _ _ h  hW (lv_sub hl [0, 1, 2, 3, 4] rfl)
            obtain ⟨f52, h⟩ := h
            exact lp47 f52 0 x32 x33 m37 _ _ _ h  hW (lv_sub hl [0, 1, 2, 3, 4] rfl)
      obtain ⟨f53, h⟩ := h
      exact lp29 f53 0 0 m30 _ _ _ h  hW (lv_sub hl [0, 1, 2, 3] rfl)
    · replace h := h.2 c_31
      refine lv_iconst (v := (-1)) hx hb dX6_pass_23 (by decide) ?_
      refine W.widen (k := 0) (n := 8 * (0)) (by omega) (by omega) ?_
      exact (z_iret hx hb hr hlocks hW h dX6_pass_24)

def wX6_today (m0 : mS) (Q : Int32 → mS → Prop) : Prop := (wX6_plain m0 (m0 22 0) (fun r1 m2 => Q r1 m2))
theorem hin_X6_today_6 : ∀ w ∈ u_ws RX6 TX6 24, w ∈ wsX6_today := by decide +kernel
set_option maxHeartbeats 8000000 in
set_option maxRecDepth 100000 in
theorem cX6_today_ok (l : Launch) (hlt : l.stackTraces = false) (D : zD) (S0 : Nat) (g : zF) (m0 : mS)   (Q : Int32 → mS → Prop) (h : wX6_today m0 Q) : Met l yX6_today wsX6_today { frames := 1, cells := 0, slots := 8 * (0), locals := 21 } (zPc D S0 (mR D S0 g m0) [.ref (S0 + 9)]) (va_Qi Q (zB D S0 (fun u => mR D S0 g u)) (zA S0)) (0) (8 * (0)) (zA S0) := by
  refine zMet (cc := cX6_today) (maxL := 1) (ret := (some .int)) (by decide) rfl (Nat.le_of_ble_eq_true rfl) (fun p e s m args below meth c ls hx hb hr hml hown hts hlocks hnm hs hE hW hl => ?_)
  have hin6 := hin_X6_today_6
  replace hl : lv_has ls 1 [(0, .ref (S0 + 9))] := hl
  unfold wX6_today at h
  refine lv_aload_n hx hb dX6_today_0 rfl (lv_at hl 0 rfl) ?_
  refine lv_aload_n hx hb dX6_today_1 rfl (lv_at hl 0 rfl) ?_
  refine zw_get (C := RX6) (T := TX6) (N := 24) hx hb hts hin6 hown hE.1 hW mC_M rfl 22 (by decide) (hts (.fieldLink RX6 84 "UnionListModel" "now" "I") (by decide +kernel)) (fun _ h9 => h9) rfl dX6_today_2 ?_
  refine zc_i (va_runV (As := [.int (m0 22 0)]) (rest := []) ⟨hx, hb, hml, hown, hts⟩ (cX6_plain_ok l hlt D S0 g m0 (m0 22 0) _ h) (cwV 1 hts gX6_today_X6_plain rfl rfl rfl (by decide +kernel) ⟨Nat.le_of_ble_eq_true rfl, Nat.le_of_ble_eq_true rfl⟩) (zpreV (q := (RX6, TX6, 24)) hE hs hW mC_M rfl) rfl rfl hl.1 rfl (lv_room (Nat.le_of_ble_eq_true rfl)) dX6_today_5 ⟨by show _ ≤ 0; omega, by show _ ≤ 8 * (0); omega⟩) hW (fun r1 m2 H locs h hW => ?_)
  refine W.widen (k := 0) (n := 8 * (0)) (by omega) (by omega) ?_
  refine W.widen (k := 0) (n := 8 * (0)) (by omega) (by omega) ?_
  exact (z_iret hx hb hr hlocks hW h dX6_today_8)

def wX6_owes (m0 : mS) (p1 : Int32) (p2 : Int32) (Q : Int32 → mS → Prop) : Prop := (wX6_isHouse m0 p1 (fun r1 m2 => ((r1 = 0 → (wX6_holds m2 1 (fun r4 m5 => ((r4 = 0 → (vp_in ((6 * p1) + p2) 36 ∧ Q (m5 20 ((6 * p1) + p2).toNatClampNeg) m5)) ∧ (¬ r4 = 0 → Q (-1) m5))))) ∧ (¬ r1 = 0 → (wX6_isHouse m2 p2 (fun r8 m9 => ((r8 = 0 → (wX6_holds m9 1 (fun r11 m12 => ((r11 = 0 → (vp_in ((6 * p1) + p2) 36 ∧ Q (m12 20 ((6 * p1) + p2).toNatClampNeg) m12)) ∧ (¬ r11 = 0 → Q (-1) m12))))) ∧ (¬ r8 = 0 → (wX6_holds m9 0 (fun r15 m16 => ((r15 = 0 → (vp_in ((6 * p1) + p2) 36 ∧ Q (m16 20 ((6 * p1) + p2).toNatClampNeg) m16)) ∧ (¬ r15 = 0 → Q (-1) m16))))))))))))
theorem hin_X6_owes_6 : ∀ w ∈ u_ws RX6 TX6 24, w ∈ wsX6_owes := by decide +kernel
set_option maxHeartbeats 8000000 in
set_option maxRecDepth 100000 in
theorem cX6_owes_ok (l : Launch) (hlt : l.stackTraces = false) (D : zD) (S0 : Nat) (g : zF) (m0 : mS) (p1 : Int32) (p2 : Int32)  (Q : Int32 → mS → Prop) (h : wX6_owes m0 p1 p2 Q) : Met l yX6_owes wsX6_owes { frames := 2, cells := 0, slots := 8 * (0), locals := 44 } (zPc D S0 (mR D S0 g m0) [.ref (S0 + 9), .int p1, .int p2]) (va_Qi Q (zB D S0 (fun u => mR D S0 g u)) (zA S0)) (0) (8 * (0)) (zA S0) := by
  refine zMet (cc := cX6_owes) (maxL := 3) (ret := (some .int)) (by decide) rfl (Nat.le_of_ble_eq_true rfl) (fun p e s m args below meth c ls hx hb hr hml hown hts hlocks hnm hs hE hW hl => ?_)
  have hin6 := hin_X6_owes_6
  replace hl : lv_has ls 3 [(0, .ref (S0 + 9)), (1, .int p1), (2, .int p2)] := hl
  unfold wX6_owes at h
  refine lv_aload_n hx hb dX6_owes_0 rfl (lv_at hl 0 rfl) ?_
  refine lv_aload_n hx hb dX6_owes_1 rfl (lv_at hl 0 rfl) ?_
  refine lv_iload_n hx hb dX6_owes_2 rfl (lv_at hl 1 rfl) ?_
  refine zc_i (va_runV (As := [.int p1]) (rest := [.ref (S0 + 9)]) ⟨hx, hb, hml, hown, hts⟩ (cX6_isHouse_ok l hlt D S0 g m0 p1 _ h) (cwV 1 hts gX6_owes_X6_isHouse rfl rfl rfl (by decide +kernel) ⟨Nat.le_of_ble_eq_true rfl, Nat.le_of_ble_eq_true rfl⟩) (zpreV (q := (RX6, TX6, 24)) hE hs hW mC_M rfl) rfl rfl hl.1 rfl (lv_room (Nat.le_of_ble_eq_true rfl)) dX6_owes_3 ⟨by show _ ≤ 0; omega, by show _ ≤ 8 * (0); omega⟩) hW (fun r1 m2 H locs h hW => ?_)
  obtain ⟨h, hz_r1⟩ := h
  refine W.widen (k := 0) (n := 8 * (0)) (by omega) (by omega) ?_
  refine lv_if_eq (tgt := 21) hx hb dX6_owes_6 (by decide) (fun c_3 => ?_) (fun c_3 => ?_)
  · replace h := h.1 c_3
    refine lv_iconst (v := 1) hx hb dX6_owes_21 (by decide) ?_
    refine zc_i (va_runV (As := [.int 1]) (rest := []) ⟨hx, hb, hml, hown, hts⟩ (cX6_holds_ok l hlt D S0 g m2 1 _ h) (cwV 1 hts gX6_owes_X6_holds rfl rfl rfl (by decide +kernel) ⟨Nat.le_of_ble_eq_true rfl, Nat.le_of_ble_eq_true rfl⟩) (zpreV (q := (RX6, TX6, 24)) hE hs hW mC_M rfl) rfl rfl hl.1 rfl (lv_room (Nat.le_of_ble_eq_true rfl)) dX6_owes_22 ⟨by show _ ≤ 0; omega, by show _ ≤ 8 * (0); omega⟩) hW (fun r4 m5 H locs h hW => ?_)
    obtain ⟨h, hz_r4⟩ := h
    refine W.widen (k := 0) (n := 8 * (0)) (by omega) (by omega) ?_
    refine lv_if_eq (tgt := 32) hx hb dX6_owes_25 (by decide) (fun c_6 => ?_) (fun c_6 => ?_)
    · replace h := h.1 c_6
      refine lv_aload_n hx hb dX6_owes_32 rfl (lv_at hl 0 rfl) ?_
      refine zw_get (C := RX6) (T := TX6) (N := 24) hx hb hts hin6 hown hE.1 hW mC_M rfl 20 (by decide) (hts (.fieldLink RX6 61 "UnionListModel" "debt" "[I") (by decide +kernel)) (fun _ h9 => h9) rfl dX6_owes_33 ?_
      refine lv_bipush (v := 6) hx hb dX6_owes_36 (by decide) ?_
      refine lv_iload_n hx hb dX6_owes_38 rfl (lv_at hl 1 rfl) ?_
      refine lv_imul hx hb dX6_owes_39 ?_
      refine lv_iload_n hx hb dX6_owes_40 rfl (lv_at hl 2 rfl) ?_
      refine lv_iadd hx hb dX6_owes_41 ?_
      obtain ⟨hb_7, h⟩ := h
      refine zw_iald hx hb hE.1 hW mC_20 hb_7 dX6_owes_42 ?_
      refine W.widen (k := 0) (n := 8 * (0)) (by omega) (by omega) ?_
      exact (z_iret hx hb hr hlocks hW h dX6_owes_43)
    · replace h := h.2 c_6
      refine lv_iconst (v := (-1)) hx hb dX6_owes_28 (by decide) ?_
      refine lv_goto (tgt := 43) hx hb dX6_owes_29 (by decide) ?_
      refine W.widen (k := 0) (n := 8 * (0)) (by omega) (by omega) ?_
      exact (z_iret hx hb hr hlocks hW h dX6_owes_43)
  · replace h := h.2 c_3
    refine lv_aload_n hx hb dX6_owes_9 rfl (lv_at hl 0 rfl) ?_
    refine lv_iload_n hx hb dX6_owes_10 rfl (lv_at hl 2 rfl) ?_
    refine zc_i (va_runV (As := [.int p2]) (rest := [.ref (S0 + 9)]) ⟨hx, hb, hml, hown, hts⟩ (cX6_isHouse_ok l hlt D S0 g m2 p2 _ h) (cwV 1 hts gX6_owes_X6_isHouse rfl rfl rfl (by decide +kernel) ⟨Nat.le_of_ble_eq_true rfl, Nat.le_of_ble_eq_true rfl⟩) (zpreV (q := (RX6, TX6, 24)) hE hs hW mC_M rfl) rfl rfl hl.1 rfl (lv_room (Nat.le_of_ble_eq_true rfl)) dX6_owes_11 ⟨by show _ ≤ 0; omega, by show _ ≤ 8 * (0); omega⟩) hW (fun r8 m9 H locs h hW => ?_)
    obtain ⟨h, hz_r8⟩ := h
    refine W.widen (k := 0) (n := 8 * (0)) (by omega) (by omega) ?_
    refine lv_if_eq (tgt := 21) hx hb dX6_owes_14 (by decide) (fun c_10 => ?_) (fun c_10 => ?_)
    · replace h := h.1 c_10
      refine lv_iconst (v := 1) hx hb dX6_owes_21 (by decide) ?_
      refine zc_i (va_runV (As := [.int 1]) (rest := []) ⟨hx, hb, hml, hown, hts⟩ (cX6_holds_ok l hlt D S0 g m9 1 _ h) (cwV 1 hts gX6_owes_X6_holds rfl rfl rfl (by decide +kernel) ⟨Nat.le_of_ble_eq_true rfl, Nat.le_of_ble_eq_true rfl⟩) (zpreV (q := (RX6, TX6, 24)) hE hs hW mC_M rfl) rfl rfl hl.1 rfl (lv_room (Nat.le_of_ble_eq_true rfl)) dX6_owes_22 ⟨by show _ ≤ 0; omega, by show _ ≤ 8 * (0); omega⟩) hW (fun r11 m12 H locs h hW => ?_)
      obtain ⟨h, hz_r11⟩ := h
      refine W.widen (k := 0) (n := 8 * (0)) (by omega) (by omega) ?_
      refine lv_if_eq (tgt := 32) hx hb dX6_owes_25 (by decide) (fun c_13 => ?_) (fun c_13 => ?_)
      · replace h := h.1 c_13
        refine lv_aload_n hx hb dX6_owes_32 rfl (lv_at hl 0 rfl) ?_
        refine zw_get (C := RX6) (T := TX6) (N := 24) hx hb hts hin6 hown hE.1 hW mC_M rfl 20 (by decide) (hts (.fieldLink RX6 61 "UnionListModel" "debt" "[I") (by decide +kernel)) (fun _ h9 => h9) rfl dX6_owes_33 ?_
        refine lv_bipush (v := 6) hx hb dX6_owes_36 (by decide) ?_
        refine lv_iload_n hx hb dX6_owes_38 rfl (lv_at hl 1 rfl) ?_
        refine lv_imul hx hb dX6_owes_39 ?_
        refine lv_iload_n hx hb dX6_owes_40 rfl (lv_at hl 2 rfl) ?_
        refine lv_iadd hx hb dX6_owes_41 ?_
        obtain ⟨hb_14, h⟩ := h
        refine zw_iald hx hb hE.1 hW mC_20 hb_14 dX6_owes_42 ?_
        refine W.widen (k := 0) (n := 8 * (0)) (by omega) (by omega) ?_
        exact (z_iret hx hb hr hlocks hW h dX6_owes_43)
      · replace h := h.2 c_13
        refine lv_iconst (v := (-1)) hx hb dX6_owes_28 (by decide) ?_
        refine lv_goto (tgt := 43) hx hb dX6_owes_29 (by decide) ?_
        refine W.widen (k := 0) (n := 8 * (0)) (by omega) (by omega) ?_
        exact (z_iret hx hb hr hlocks hW h dX6_owes_43)
    · replace h := h.2 c_10
      refine lv_iconst (v := 0) hx hb dX6_owes_17 (by decide) ?_
      refine lv_goto (tgt := 22) hx hb dX6_owes_18 (by decide) ?_
      refine zc_i (va_runV (As := [.int 0]) (rest := []) ⟨hx, hb, hml, hown, hts⟩ (cX6_holds_ok l hlt D S0 g m9 0 _ h) (cwV 1 hts gX6_owes_X6_holds rfl rfl rfl (by decide +kernel) ⟨Nat.le_of_ble_eq_true rfl, Nat.le_of_ble_eq_true rfl⟩) (zpreV (q := (RX6, TX6, 24)) hE hs hW mC_M rfl) rfl rfl hl.1 rfl (lv_room (Nat.le_of_ble_eq_true rfl)) dX6_owes_22 ⟨by show _ ≤ 0; omega, by show _ ≤ 8 * (0); omega⟩) hW (fun r15 m16 H locs h hW => ?_)
      obtain ⟨h, hz_r15⟩ := h
      refine W.widen (k := 0) (n := 8 * (0)) (by omega) (by omega) ?_
      refine lv_if_eq (tgt := 32) hx hb dX6_owes_25 (by decide) (fun c_17 => ?_) (fun c_17 => ?_)
      · replace h := h.1 c_17
        refine lv_aload_n hx hb dX6_owes_32 rfl (lv_at hl 0 rfl) ?_
        refine zw_get (C := RX6) (T := TX6) (N := 24) hx hb hts hin6 hown hE.1 hW mC_M rfl 20 (by decide) (hts (.fieldLink RX6 61 "UnionListModel" "debt" "[I") (by decide +kernel)) (fun _ h9 => h9) rfl dX6_owes_33 ?_
        refine lv_bipush (v := 6) hx hb dX6_owes_36 (by decide) ?_
        refine lv_iload_n hx hb dX6_owes_38 rfl (lv_at hl 1 rfl) ?_
        refine lv_imul hx hb dX6_owes_39 ?_
        refine lv_iload_n hx hb dX6_owes_40 rfl (lv_at hl 2 rfl) ?_
        refine lv_iadd hx hb dX6_owes_41 ?_
        obtain ⟨hb_18, h⟩ := h
        refine zw_iald hx hb hE.1 hW mC_20 hb_18 dX6_owes_42 ?_
        refine W.widen (k := 0) (n := 8 * (0)) (by omega) (by omega) ?_
        exact (z_iret hx hb hr hlocks hW h dX6_owes_43)
      · replace h := h.2 c_17
        refine lv_iconst (v := (-1)) hx hb dX6_owes_28 (by decide) ?_
        refine lv_goto (tgt := 43) hx hb dX6_owes_29 (by decide) ?_
        refine W.widen (k := 0) (n := 8 * (0)) (by omega) (by omega) ?_
        exact (z_iret hx hb hr hlocks hW h dX6_owes_43)

def wX6_settle_l4 (Q : Int32 → mS → Prop) : Nat → Int32 → Int32 → mS → Prop
  | 0, _, _, _ => False
  | f4 + 1, x1, x2, m3 => ((36 ≤ x1 → (wX6_plain m3 x2 (fun r6 m7 => Q r6 m7))) ∧ (¬ 36 ≤ x1 → (vp_in x1 36 ∧ (((m3 20 x1.toNatClampNeg) ≤ 0 → (vp_in x1 36 ∧ (∀ m11 : mS, m11 = mset m3 20 x1.toNatClampNeg 0 → (wX6_settle_l4 Q f4 (x1 + 1) (x2 + 0) m11)))) ∧ (¬ (m3 20 x1.toNatClampNeg) ≤ 0 → (vp_in x1 36 ∧ (∀ m13 : mS, m13 = mset m3 20 x1.toNatClampNeg 0 → (wX6_settle_l4 Q f4 (x1 + 1) (x2 + 1) m13))))))))
def wX6_settle (m0 : mS) (Q : Int32 → mS → Prop) : Prop := (∃ f14 : Nat, wX6_settle_l4 Q f14 0 0 m0)
theorem hin_X6_settle_6 : ∀ w ∈ u_ws RX6 TX6 24, w ∈ wsX6_settle := by decide +kernel
set_option maxHeartbeats 8000000 in
set_option maxRecDepth 100000 in
theorem cX6_settle_ok (l : Launch) (hlt : l.stackTraces = false) (D : zD) (S0 : Nat) (g : zF) (m0 : mS)   (Q : Int32 → mS → Prop) (h : wX6_settle m0 Q) : Met l yX6_settle wsX6_settle { frames := 1, cells := 0, slots := 8 * (0), locals := 21 } (zPc D S0 (mR D S0 g m0) [.ref (S0 + 9)]) (va_Qi Q (zB D S0 (fun u => mR D S0 g u)) (zA S0)) (0) (8 * (0)) (zA S0) := by
  refine zMet (cc := cX6_settle) (maxL := 3) (ret := (some .int)) (by decide) rfl (Nat.le_of_ble_eq_true rfl) (fun p e s m args below meth c ls hx hb hr hml hown hts hlocks hnm hs hE hW hl => ?_)
  have hin6 := hin_X6_settle_6
  replace hl : lv_has ls 3 [(0, .ref (S0 + 9))] := hl
  unfold wX6_settle at h
  refine lv_iconst (v := 0) hx hb dX6_settle_0 (by decide) ?_
  refine lv_istore_n (lv' := [(1, .int 0), (0, .ref (S0 + 9))]) hx hb dX6_settle_1 rfl hl (by decide) rfl (fun ls hl => ?_)
  refine lv_iconst (v := 0) hx hb dX6_settle_2 (by decide) ?_
  refine lv_istore_n (lv' := [(2, .int 0), (1, .int 0), (0, .ref (S0 + 9))]) hx hb dX6_settle_3 rfl hl (by decide) rfl (fun ls hl => ?_)
  have lp4 : ∀ (f4 : Nat) (x1 : Int32) (x2 : Int32) (m3 : mS) (H : Heap) (locs : List Loc) (ls : Array Slot), wX6_settle_l4 Q f4 x1 x2 m3 → zW D S0 (mR D S0 g m3) s.heap H locs → lv_has ls 3 [(2, .int x1), (1, .int x2), (0, .ref (S0 + 9))] → W p l e { frames := 1, cells := 0, slots := 8 * (0), locals := 21 } s m args below meth c H locs (0) (8 * (0)) (MQ below (va_Qi Q (zB D S0 (fun u => mR D S0 g u)) (zA S0)) args s (0) (8 * (0)) (zA S0)) (F0 m 4 ls []) := by
    intro f4
    induction f4 with
    | zero => intro x1 x2 m3 H locs ls h; exact h.elim
    | succ f4 ih4 =>
      intro x1 x2 m3 H locs ls h  hW hl
      unfold wX6_settle_l4 at h
      refine lv_iload_n hx hb dX6_settle_4 rfl (lv_at hl 0 rfl) ?_
      refine lv_bipush (v := 36) hx hb dX6_settle_5 (by decide) ?_
      refine lv_icmp_ge (tgt := 40) hx hb dX6_settle_7 (by decide) (fun c_5 => ?_) (fun c_5 => ?_)
      · replace h := h.1 c_5
        refine lv_aload_n hx hb dX6_settle_40 rfl (lv_at hl 2 rfl) ?_
        refine lv_iload_n hx hb dX6_settle_41 rfl (lv_at hl 1 rfl) ?_
        refine zc_i (va_runV (As := [.int x2]) (rest := []) ⟨hx, hb, hml, hown, hts⟩ (cX6_plain_ok l hlt D S0 g m3 x2 _ h) (cwV 1 hts gX6_settle_X6_plain rfl rfl rfl (by decide +kernel) ⟨Nat.le_of_ble_eq_true rfl, Nat.le_of_ble_eq_true rfl⟩) (zpreV (q := (RX6, TX6, 24)) hE hs hW mC_M rfl) rfl rfl hl.1 rfl (lv_room (Nat.le_of_ble_eq_true rfl)) dX6_settle_42 ⟨by show _ ≤ 0; omega, by show _ ≤ 8 * (0); omega⟩) hW (fun r6 m7 H locs h hW => ?_)
        refine W.widen (k := 0) (n := 8 * (0)) (by omega) (by omega) ?_
        refine W.widen (k := 0) (n := 8 * (0)) (by omega) (by omega) ?_
        exact (z_iret hx hb hr hlocks hW h dX6_settle_45)
      · replace h := h.2 c_5
        refine lv_iload_n hx hb dX6_settle_10 rfl (lv_at hl 1 rfl) ?_
        refine lv_aload_n hx hb dX6_settle_11 rfl (lv_at hl 2 rfl) ?_
        refine zw_get (C := RX6) (T := TX6) (N := 24) hx hb hts hin6 hown hE.1 hW mC_M rfl 20 (by decide) (hts (.fieldLink RX6 61 "UnionListModel" "debt" "[I") (by decide +kernel)) (fun _ h9 => h9) rfl dX6_settle_12 ?_
        refine lv_iload_n hx hb dX6_settle_15 rfl (lv_at hl 0 rfl) ?_
        obtain ⟨hb_8, h⟩ := h
        refine zw_iald hx hb hE.1 hW mC_20 hb_8 dX6_settle_16 ?_
        refine lv_if_le (tgt := 24) hx hb dX6_settle_17 (by decide) (fun c_9 => ?_) (fun c_9 => ?_)
        · replace h := h.1 c_9
          refine lv_iconst (v := 0) hx hb dX6_settle_24 (by decide) ?_
          refine lv_iadd hx hb dX6_settle_25 ?_
          refine lv_istore_n (lv' := [(1, .int (x2 + 0)), (2, .int x1), (0, .ref (S0 + 9))]) hx hb dX6_settle_26 rfl hl (by decide) rfl (fun ls hl => ?_)
          refine lv_aload_n hx hb dX6_settle_27 rfl (lv_at hl 2 rfl) ?_
          refine zw_get (C := RX6) (T := TX6) (N := 24) hx hb hts hin6 hown hE.1 hW mC_M rfl 20 (by decide) (hts (.fieldLink RX6 61 "UnionListModel" "debt" "[I") (by decide +kernel)) (fun _ h9 => h9) rfl dX6_settle_28 ?_
          refine lv_iload_n hx hb dX6_settle_31 rfl (lv_at hl 1 rfl) ?_
          refine lv_iconst (v := 0) hx hb dX6_settle_32 (by decide) ?_
          obtain ⟨hb_10, h⟩ := h
          refine zw_iast hx hb hE.1 hW mC_20 hb_10 dX6_settle_33 mP_20 (fun H locs hW => ?_)
          obtain ⟨m11, em11⟩ : ∃ y, y = mset m3 20 x1.toNatClampNeg 0 := ⟨_, rfl⟩
          rw [← em11] at hW
          replace h := h m11 em11
          refine lv_iinc (v := (x1 + 1)) (lv' := [(2, .int (x1 + 1)), (1, .int (x2 + 0)), (0, .ref (S0 + 9))]) hx hb dX6_settle_34 hl (k := 1) rfl rfl (by decide) rfl (fun ls hl => ?_)
          refine lv_goto (tgt := 4) hx hb dX6_settle_37 (by decide) ?_
          exact ih4 (x1 + 1) (x2 + 0) m11 _ _ _ h  hW (lv_sub hl [0, 1, 2] rfl)
        · replace h := h.2 c_9
          refine lv_iconst (v := 1) hx hb dX6_settle_20 (by decide) ?_
          refine lv_goto (tgt := 25) hx hb dX6_settle_21 (by decide) ?_
          refine lv_iadd hx hb dX6_settle_25 ?_
          refine lv_istore_n (lv' := [(1, .int (x2 + 1)), (2, .int x1), (0, .ref (S0 + 9))]) hx hb dX6_settle_26 rfl hl (by decide) rfl (fun ls hl => ?_)
          refine lv_aload_n hx hb dX6_settle_27 rfl (lv_at hl 2 rfl) ?_
          refine zw_get (C := RX6) (T := TX6) (N := 24) hx hb hts hin6 hown hE.1 hW mC_M rfl 20 (by decide) (hts (.fieldLink RX6 61 "UnionListModel" "debt" "[I") (by decide +kernel)) (fun _ h9 => h9) rfl dX6_settle_28 ?_
          refine lv_iload_n hx hb dX6_settle_31 rfl (lv_at hl 1 rfl) ?_
          refine lv_iconst (v := 0) hx hb dX6_settle_32 (by decide) ?_
          obtain ⟨hb_12, h⟩ := h
          refine zw_iast hx hb hE.1 hW mC_20 hb_12 dX6_settle_33 mP_20 (fun H locs hW => ?_)
          obtain ⟨m13, em13⟩ : ∃ y, y = mset m3 20 x1.toNatClampNeg 0 := ⟨_, rfl⟩
          rw [← em13] at hW
          replace h := h m13 em13
          refine lv_iinc (v := (x1 + 1)) (lv' := [(2, .int (x1 + 1)), (1, .int (x2 + 1)), (0, .ref (S0 + 9))]) hx hb dX6_settle_34 hl (k := 1) rfl rfl (by decide) rfl (fun ls hl => ?_)
          refine lv_goto (tgt := 4) hx hb dX6_settle_37 (by decide) ?_
          exact ih4 (x1 + 1) (x2 + 1) m13 _ _ _ h  hW (lv_sub hl [0, 1, 2] rfl)
  obtain ⟨f14, h⟩ := h
  exact lp4 f14 0 0 m0 _ _ _ h  hW (lv_sub hl [0, 1, 2] rfl)

def wX6_quota (m0 : mS) (p1 : Int32) (Q : Int32 → mS → Prop) : Prop := (wX6_isHouse m0 p1 (fun r1 m2 => ((r1 = 0 → (wX6_holds m2 1 (fun r4 m5 => ((r4 = 0 → (vp_in p1 6 ∧ Q (m5 21 p1.toNatClampNeg) m5)) ∧ (¬ r4 = 0 → Q (-1) m5))))) ∧ (¬ r1 = 0 → (wX6_holds m2 0 (fun r8 m9 => ((r8 = 0 → (vp_in p1 6 ∧ Q (m9 21 p1.toNatClampNeg) m9)) ∧ (¬ r8 = 0 → Q (-1) m9))))))))
theorem hin_X6_quota_6 : ∀ w ∈ u_ws RX6 TX6 24, w ∈ wsX6_quota := by decide +kernel
set_option maxHeartbeats 8000000 in
set_option maxRecDepth 100000 in
theorem cX6_quota_ok (l : Launch) (hlt : l.stackTraces = false) (D : zD) (S0 : Nat) (g : zF) (m0 : mS) (p1 : Int32)  (Q : Int32 → mS → Prop) (h : wX6_quota m0 p1 Q) : Met l yX6_quota wsX6_quota { frames := 2, cells := 0, slots := 8 * (0), locals := 44 } (zPc D S0 (mR D S0 g m0) [.ref (S0 + 9), .int p1]) (va_Qi Q (zB D S0 (fun u => mR D S0 g u)) (zA S0)) (0) (8 * (0)) (zA S0) := by
  refine zMet (cc := cX6_quota) (maxL := 2) (ret := (some .int)) (by decide) rfl (Nat.le_of_ble_eq_true rfl) (fun p e s m args below meth c ls hx hb hr hml hown hts hlocks hnm hs hE hW hl => ?_)
  have hin6 := hin_X6_quota_6
  replace hl : lv_has ls 2 [(0, .ref (S0 + 9)), (1, .int p1)] := hl
  unfold wX6_quota at h
  refine lv_aload_n hx hb dX6_quota_0 rfl (lv_at hl 0 rfl) ?_
  refine lv_aload_n hx hb dX6_quota_1 rfl (lv_at hl 0 rfl) ?_
  refine lv_iload_n hx hb dX6_quota_2 rfl (lv_at hl 1 rfl) ?_
  refine zc_i (va_runV (As := [.int p1]) (rest := [.ref (S0 + 9)]) ⟨hx, hb, hml, hown, hts⟩ (cX6_isHouse_ok l hlt D S0 g m0 p1 _ h) (cwV 1 hts gX6_quota_X6_isHouse rfl rfl rfl (by decide +kernel) ⟨Nat.le_of_ble_eq_true rfl, Nat.le_of_ble_eq_true rfl⟩) (zpreV (q := (RX6, TX6, 24)) hE hs hW mC_M rfl) rfl rfl hl.1 rfl (lv_room (Nat.le_of_ble_eq_true rfl)) dX6_quota_3 ⟨by show _ ≤ 0; omega, by show _ ≤ 8 * (0); omega⟩) hW (fun r1 m2 H locs h hW => ?_)
  obtain ⟨h, hz_r1⟩ := h
  refine W.widen (k := 0) (n := 8 * (0)) (by omega) (by omega) ?_
  refine lv_if_eq (tgt := 13) hx hb dX6_quota_6 (by decide) (fun c_3 => ?_) (fun c_3 => ?_)
  · replace h := h.1 c_3
    refine lv_iconst (v := 1) hx hb dX6_quota_13 (by decide) ?_
    refine zc_i (va_runV (As := [.int 1]) (rest := []) ⟨hx, hb, hml, hown, hts⟩ (cX6_holds_ok l hlt D S0 g m2 1 _ h) (cwV 1 hts gX6_quota_X6_holds rfl rfl rfl (by decide +kernel) ⟨Nat.le_of_ble_eq_true rfl, Nat.le_of_ble_eq_true rfl⟩) (zpreV (q := (RX6, TX6, 24)) hE hs hW mC_M rfl) rfl rfl hl.1 rfl (lv_room (Nat.le_of_ble_eq_true rfl)) dX6_quota_14 ⟨by show _ ≤ 0; omega, by show _ ≤ 8 * (0); omega⟩) hW (fun r4 m5 H locs h hW => ?_)
    obtain ⟨h, hz_r4⟩ := h
    refine W.widen (k := 0) (n := 8 * (0)) (by omega) (by omega) ?_
    refine lv_if_eq (tgt := 24) hx hb dX6_quota_17 (by decide) (fun c_6 => ?_) (fun c_6 => ?_)
    · replace h := h.1 c_6
      refine lv_aload_n hx hb dX6_quota_24 rfl (lv_at hl 0 rfl) ?_
      refine zw_get (C := RX6) (T := TX6) (N := 24) hx hb hts hin6 hown hE.1 hW mC_M rfl 21 (by decide) (hts (.fieldLink RX6 64 "UnionListModel" "spared" "[I") (by decide +kernel)) (fun _ h9 => h9) rfl dX6_quota_25 ?_
      refine lv_iload_n hx hb dX6_quota_28 rfl (lv_at hl 1 rfl) ?_
      obtain ⟨hb_7, h⟩ := h
      refine zw_iald hx hb hE.1 hW mC_21 hb_7 dX6_quota_29 ?_
      refine W.widen (k := 0) (n := 8 * (0)) (by omega) (by omega) ?_
      exact (z_iret hx hb hr hlocks hW h dX6_quota_30)
    · replace h := h.2 c_6
      refine lv_iconst (v := (-1)) hx hb dX6_quota_20 (by decide) ?_
      refine lv_goto (tgt := 30) hx hb dX6_quota_21 (by decide) ?_
      refine W.widen (k := 0) (n := 8 * (0)) (by omega) (by omega) ?_
      exact (z_iret hx hb hr hlocks hW h dX6_quota_30)
  · replace h := h.2 c_3
    refine lv_iconst (v := 0) hx hb dX6_quota_9 (by decide) ?_
    refine lv_goto (tgt := 14) hx hb dX6_quota_10 (by decide) ?_
    refine zc_i (va_runV (As := [.int 0]) (rest := []) ⟨hx, hb, hml, hown, hts⟩ (cX6_holds_ok l hlt D S0 g m2 0 _ h) (cwV 1 hts gX6_quota_X6_holds rfl rfl rfl (by decide +kernel) ⟨Nat.le_of_ble_eq_true rfl, Nat.le_of_ble_eq_true rfl⟩) (zpreV (q := (RX6, TX6, 24)) hE hs hW mC_M rfl) rfl rfl hl.1 rfl (lv_room (Nat.le_of_ble_eq_true rfl)) dX6_quota_14 ⟨by show _ ≤ 0; omega, by show _ ≤ 8 * (0); omega⟩) hW (fun r8 m9 H locs h hW => ?_)
    obtain ⟨h, hz_r8⟩ := h
    refine W.widen (k := 0) (n := 8 * (0)) (by omega) (by omega) ?_
    refine lv_if_eq (tgt := 24) hx hb dX6_quota_17 (by decide) (fun c_10 => ?_) (fun c_10 => ?_)
    · replace h := h.1 c_10
      refine lv_aload_n hx hb dX6_quota_24 rfl (lv_at hl 0 rfl) ?_
      refine zw_get (C := RX6) (T := TX6) (N := 24) hx hb hts hin6 hown hE.1 hW mC_M rfl 21 (by decide) (hts (.fieldLink RX6 64 "UnionListModel" "spared" "[I") (by decide +kernel)) (fun _ h9 => h9) rfl dX6_quota_25 ?_
      refine lv_iload_n hx hb dX6_quota_28 rfl (lv_at hl 1 rfl) ?_
      obtain ⟨hb_11, h⟩ := h
      refine zw_iald hx hb hE.1 hW mC_21 hb_11 dX6_quota_29 ?_
      refine W.widen (k := 0) (n := 8 * (0)) (by omega) (by omega) ?_
      exact (z_iret hx hb hr hlocks hW h dX6_quota_30)
    · replace h := h.2 c_10
      refine lv_iconst (v := (-1)) hx hb dX6_quota_20 (by decide) ?_
      refine lv_goto (tgt := 30) hx hb dX6_quota_21 (by decide) ?_
      refine W.widen (k := 0) (n := 8 * (0)) (by omega) (by omega) ?_
      exact (z_iret hx hb hr hlocks hW h dX6_quota_30)
