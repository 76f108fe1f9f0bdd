def wX6_addCopy (m0 : mS) (p1 : Int32) (p2 : Int32) (Q : Int32 → mS → Prop) : Prop := (wX6_isHouse m0 p1 (fun r1 m2 => ((r1 = 0 → (wX6_holds m2 1 (fun r4 m5 => ((r4 = 0 → (vp_in (m5 7 0) 20 ∧ (∀ m8 : mS, m8 = mset m5 0 (m5 7 0).toNatClampNeg p1 → (vp_in (m8 7 0) 20 ∧ (∀ m10 : mS, m10 = mset m8 1 (m8 7 0).toNatClampNeg p2 → (vp_in (m10 7 0) 20 ∧ (∀ m12 : mS, m12 = mset m10 2 (m10 7 0).toNatClampNeg p1 → (vp_in (m12 7 0) 20 ∧ (∀ m14 : mS, m14 = mset m12 3 (m12 7 0).toNatClampNeg p1 → (vp_in (m14 7 0) 20 ∧ (∀ m16 : mS, m16 = mset m14 4 (m14 7 0).toNatClampNeg (-1) → (vp_in (m16 7 0) 20 ∧ (∀ m18 : mS, m18 = mset m16 5 (m16 7 0).toNatClampNeg (-1) → (wX6_tell m18 (m18 7 0) 1 (fun m20 => (∀ m21 : mS, m21 = mset m20 7 0 ((m20 7 0) + 1) → Q ((m21 7 0) - 1) m21)))))))))))))))) ∧ (¬ r4 = 0 → Q (-1) m5))))) ∧ (¬ r1 = 0 → (wX6_between m2 p2 0 7 (fun r22 m23 => ((r22 = 0 → (wX6_holds m23 1 (fun r62 m63 => ((r62 = 0 → (vp_in (m63 7 0) 20 ∧ (∀ m66 : mS, m66 = mset m63 0 (m63 7 0).toNatClampNeg p1 → (vp_in (m66 7 0) 20 ∧ (∀ m68 : mS, m68 = mset m66 1 (m66 7 0).toNatClampNeg p2 → (vp_in (m68 7 0) 20 ∧ (∀ m70 : mS, m70 = mset m68 2 (m68 7 0).toNatClampNeg p1 → (vp_in (m70 7 0) 20 ∧ (∀ m72 : mS, m72 = mset m70 3 (m70 7 0).toNatClampNeg p1 → (vp_in (m72 7 0) 20 ∧ (∀ m74 : mS, m74 = mset m72 4 (m72 7 0).toNatClampNeg (-1) → (vp_in (m74 7 0) 20 ∧ (∀ m76 : mS, m76 = mset m74 5 (m74 7 0).toNatClampNeg (-1) → (wX6_tell m76 (m76 7 0) 1 (fun m78 => (∀ m79 : mS, m79 = mset m78 7 0 ((m78 7 0) + 1) → Q ((m79 7 0) - 1) m79)))))))))))))))) ∧ (¬ r62 = 0 → Q (-1) m63))))) ∧ (¬ r22 = 0 → (((m23 7 0) = 20 → (wX6_holds m23 2 (fun r44 m45 => ((r44 = 0 → (vp_in (m45 7 0) 20 ∧ (∀ m48 : mS, m48 = mset m45 0 (m45 7 0).toNatClampNeg p1 → (vp_in (m48 7 0) 20 ∧ (∀ m50 : mS, m50 = mset m48 1 (m48 7 0).toNatClampNeg p2 → (vp_in (m50 7 0) 20 ∧ (∀ m52 : mS, m52 = mset m50 2 (m50 7 0).toNatClampNeg p1 → (vp_in (m52 7 0) 20 ∧ (∀ m54 : mS, m54 = mset m52 3 (m52 7 0).toNatClampNeg p1 → (vp_in (m54 7 0) 20 ∧ (∀ m56 : mS, m56 = mset m54 4 (m54 7 0).toNatClampNeg (-1) → (vp_in (m56 7 0) 20 ∧ (∀ m58 : mS, m58 = mset m56 5 (m56 7 0).toNatClampNeg (-1) → (wX6_tell m58 (m58 7 0) 1 (fun m60 => (∀ m61 : mS, m61 = mset m60 7 0 ((m60 7 0) + 1) → Q ((m61 7 0) - 1) m61)))))))))))))))) ∧ (¬ r44 = 0 → Q (-1) m45))))) ∧ (¬ (m23 7 0) = 20 → (wX6_holds m23 0 (fun r26 m27 => ((r26 = 0 → (vp_in (m27 7 0) 20 ∧ (∀ m30 : mS, m30 = mset m27 0 (m27 7 0).toNatClampNeg p1 → (vp_in (m30 7 0) 20 ∧ (∀ m32 : mS, m32 = mset m30 1 (m30 7 0).toNatClampNeg p2 → (vp_in (m32 7 0) 20 ∧ (∀ m34 : mS, m34 = mset m32 2 (m32 7 0).toNatClampNeg p1 → (vp_in (m34 7 0) 20 ∧ (∀ m36 : mS, m36 = mset m34 3 (m34 7 0).toNatClampNeg p1 → (vp_in (m36 7 0) 20 ∧ (∀ m38 : mS, m38 = mset m36 4 (m36 7 0).toNatClampNeg (-1) → (vp_in (m38 7 0) 20 ∧ (∀ m40 : mS, m40 = mset m38 5 (m38 7 0).toNatClampNeg (-1) → (wX6_tell m40 (m40 7 0) 1 (fun m42 => (∀ m43 : mS, m43 = mset m42 7 0 ((m42 7 0) + 1) → Q ((m43 7 0) - 1) m43)))))))))))))))) ∧ (¬ r26 = 0 → Q (-1) m27))))))))))))))
theorem hin_X6_addCopy_6 : ∀ w ∈ u_ws RX6 TX6 24, w ∈ wsX6_addCopy := by decide +kernel
set_option maxHeartbeats 8000000 in
set_option maxRecDepth 100000 in
theorem cX6_addCopy_ok (l : Launch) (hlt : l.stackTraces = false) (D : zD) (S0 : Nat) (g : zF) (m0 : mS) (p1 : Int32) (p2 : Int32)  (Q : Int32 → mS → Prop) (h : wX6_addCopy m0 p1 p2 Q) : Met l yX6_addCopy wsX6_addCopy { frames := 2, cells := 0, slots := 8 * (0), locals := 45 } (zPc D S0 (mR D S0 g m0) [.ref (S0 + 9), .int p1, .int p2]) (va_Qi Q (zB D S0 (fun u => mR D S0 g u)) (zA S0)) (0) (8 * (0)) (zA S0) := by
  refine zMet (cc := cX6_addCopy) (maxL := 3) (ret := (some .int)) (by decide) rfl (Nat.le_of_ble_eq_true rfl) (fun p e s m args below meth c ls hx hb hr hml hown hts hlocks hnm hs hE hW hl => ?_)
  have hin6 := hin_X6_addCopy_6
  replace hl : lv_has ls 3 [(0, .ref (S0 + 9)), (1, .int p1), (2, .int p2)] := hl
  unfold wX6_addCopy at h
  refine lv_aload_n hx hb dX6_addCopy_0 rfl (lv_at hl 0 rfl) ?_
  refine lv_aload_n hx hb dX6_addCopy_1 rfl (lv_at hl 0 rfl) ?_
  refine lv_iload_n hx hb dX6_addCopy_2 rfl (lv_at hl 1 rfl) ?_
  refine zc_i (va_runV (As := [.int p1]) (rest := [.ref (S0 + 9)]) ⟨hx, hb, hml, hown, hts⟩ (cX6_isHouse_ok l hlt D S0 g m0 p1 _ h) (cwV 1 hts gX6_addCopy_X6_isHouse rfl rfl rfl (by decide +kernel) ⟨Nat.le_of_ble_eq_true rfl, Nat.le_of_ble_eq_true rfl⟩) (zpreV (q := (RX6, TX6, 24)) hE hs hW mC_M rfl) rfl rfl hl.1 rfl (lv_room (Nat.le_of_ble_eq_true rfl)) dX6_addCopy_3 ⟨by show _ ≤ 0; omega, by show _ ≤ 8 * (0); omega⟩) hW (fun r1 m2 H locs h hW => ?_)
  obtain ⟨h, hz_r1⟩ := h
  refine W.widen (k := 0) (n := 8 * (0)) (by omega) (by omega) ?_
  refine lv_if_eq (tgt := 20) hx hb dX6_addCopy_6 (by decide) (fun c_3 => ?_) (fun c_3 => ?_)
  · replace h := h.1 c_3
    refine lv_iconst (v := 1) hx hb dX6_addCopy_20 (by decide) ?_
    refine lv_goto (tgt := 38) hx hb dX6_addCopy_21 (by decide) ?_
    refine zc_i (va_runV (As := [.int 1]) (rest := []) ⟨hx, hb, hml, hown, hts⟩ (cX6_holds_ok l hlt D S0 g m2 1 _ h) (cwV 1 hts gX6_addCopy_X6_holds rfl rfl rfl (by decide +kernel) ⟨Nat.le_of_ble_eq_true rfl, Nat.le_of_ble_eq_true rfl⟩) (zpreV (q := (RX6, TX6, 24)) hE hs hW mC_M rfl) rfl rfl hl.1 rfl (lv_room (Nat.le_of_ble_eq_true rfl)) dX6_addCopy_38 ⟨by show _ ≤ 0; omega, by show _ ≤ 8 * (0); omega⟩) hW (fun r4 m5 H locs h hW => ?_)
    obtain ⟨h, hz_r4⟩ := h
    refine W.widen (k := 0) (n := 8 * (0)) (by omega) (by omega) ?_
    refine lv_if_eq (tgt := 46) hx hb dX6_addCopy_41 (by decide) (fun c_6 => ?_) (fun c_6 => ?_)
    · replace h := h.1 c_6
      refine lv_aload_n hx hb dX6_addCopy_46 rfl (lv_at hl 0 rfl) ?_
      refine zw_get (C := RX6) (T := TX6) (N := 24) hx hb hts hin6 hown hE.1 hW mC_M rfl 0 (by decide) (hts (.fieldLink RX6 7 "UnionListModel" "home" "[I") (by decide +kernel)) (fun _ h9 => h9) rfl dX6_addCopy_47 ?_
      refine lv_aload_n hx hb dX6_addCopy_50 rfl (lv_at hl 0 rfl) ?_
      refine zw_get (C := RX6) (T := TX6) (N := 24) hx hb hts hin6 hown hE.1 hW mC_M rfl 7 (by decide) (hts (.fieldLink RX6 75 "UnionListModel" "copies" "I") (by decide +kernel)) (fun _ h9 => h9) rfl dX6_addCopy_51 ?_
      refine lv_iload_n hx hb dX6_addCopy_54 rfl (lv_at hl 1 rfl) ?_
      obtain ⟨hb_7, h⟩ := h
      refine zw_iast hx hb hE.1 hW mC_0 hb_7 dX6_addCopy_55 mP_0 (fun H locs hW => ?_)
      obtain ⟨m8, em8⟩ : ∃ y, y = mset m5 0 (m5 7 0).toNatClampNeg p1 := ⟨_, rfl⟩
      rw [← em8] at hW
      replace h := h m8 em8
      refine lv_aload_n hx hb dX6_addCopy_56 rfl (lv_at hl 0 rfl) ?_
      refine zw_get (C := RX6) (T := TX6) (N := 24) hx hb hts hin6 hown hE.1 hW mC_M rfl 1 (by decide) (hts (.fieldLink RX6 13 "UnionListModel" "title" "[I") (by decide +kernel)) (fun _ h9 => h9) rfl dX6_addCopy_57 ?_
      refine lv_aload_n hx hb dX6_addCopy_60 rfl (lv_at hl 0 rfl) ?_
      refine zw_get (C := RX6) (T := TX6) (N := 24) hx hb hts hin6 hown hE.1 hW mC_M rfl 7 (by decide) (hts (.fieldLink RX6 75 "UnionListModel" "copies" "I") (by decide +kernel)) (fun _ h9 => h9) rfl dX6_addCopy_61 ?_
      refine lv_iload_n hx hb dX6_addCopy_64 rfl (lv_at hl 2 rfl) ?_
      obtain ⟨hb_9, h⟩ := h
      refine zw_iast hx hb hE.1 hW mC_1 hb_9 dX6_addCopy_65 mP_1 (fun H locs hW => ?_)
      obtain ⟨m10, em10⟩ : ∃ y, y = mset m8 1 (m8 7 0).toNatClampNeg p2 := ⟨_, rfl⟩
      rw [← em10] at hW
      replace h := h m10 em10
      refine lv_aload_n hx hb dX6_addCopy_66 rfl (lv_at hl 0 rfl) ?_
      refine zw_get (C := RX6) (T := TX6) (N := 24) hx hb hts hin6 hown hE.1 hW mC_M rfl 2 (by decide) (hts (.fieldLink RX6 16 "UnionListModel" "place" "[I") (by decide +kernel)) (fun _ h9 => h9) rfl dX6_addCopy_67 ?_
      refine lv_aload_n hx hb dX6_addCopy_70 rfl (lv_at hl 0 rfl) ?_
      refine zw_get (C := RX6) (T := TX6) (N := 24) hx hb hts hin6 hown hE.1 hW mC_M rfl 7 (by decide) (hts (.fieldLink RX6 75 "UnionListModel" "copies" "I") (by decide +kernel)) (fun _ h9 => h9) rfl dX6_addCopy_71 ?_
      refine lv_iload_n hx hb dX6_addCopy_74 rfl (lv_at hl 1 rfl) ?_
      obtain ⟨hb_11, h⟩ := h
      refine zw_iast hx hb hE.1 hW mC_2 hb_11 dX6_addCopy_75 mP_2 (fun H locs hW => ?_)
      obtain ⟨m12, em12⟩ : ∃ y, y = mset m10 2 (m10 7 0).toNatClampNeg p1 := ⟨_, rfl⟩
      rw [← em12] at hW
      replace h := h m12 em12
      refine lv_aload_n hx hb dX6_addCopy_76 rfl (lv_at hl 0 rfl) ?_
      refine zw_get (C := RX6) (T := TX6) (N := 24) hx hb hts hin6 hown hE.1 hW mC_M rfl 3 (by decide) (hts (.fieldLink RX6 19 "UnionListModel" "hands" "[I") (by decide +kernel)) (fun _ h9 => h9) rfl dX6_addCopy_77 ?_
      refine lv_aload_n hx hb dX6_addCopy_80 rfl (lv_at hl 0 rfl) ?_
      refine zw_get (C := RX6) (T := TX6) (N := 24) hx hb hts hin6 hown hE.1 hW mC_M rfl 7 (by decide) (hts (.fieldLink RX6 75 "UnionListModel" "copies" "I") (by decide +kernel)) (fun _ h9 => h9) rfl dX6_addCopy_81 ?_
      refine lv_iload_n hx hb dX6_addCopy_84 rfl (lv_at hl 1 rfl) ?_
      obtain ⟨hb_13, h⟩ := h
      refine zw_iast hx hb hE.1 hW mC_3 hb_13 dX6_addCopy_85 mP_3 (fun H locs hW => ?_)
      obtain ⟨m14, em14⟩ : ∃ y, y = mset m12 3 (m12 7 0).toNatClampNeg p1 := ⟨_, rfl⟩
      rw [← em14] at hW
      replace h := h m14 em14
      refine lv_aload_n hx hb dX6_addCopy_86 rfl (lv_at hl 0 rfl) ?_
      refine zw_get (C := RX6) (T := TX6) (N := 24) hx hb hts hin6 hown hE.1 hW mC_M rfl 4 (by decide) (hts (.fieldLink RX6 22 "UnionListModel" "knows" "[I") (by decide +kernel)) (fun _ h9 => h9) rfl dX6_addCopy_87 ?_
      refine lv_aload_n hx hb dX6_addCopy_90 rfl (lv_at hl 0 rfl) ?_
      refine zw_get (C := RX6) (T := TX6) (N := 24) hx hb hts hin6 hown hE.1 hW mC_M rfl 7 (by decide) (hts (.fieldLink RX6 75 "UnionListModel" "copies" "I") (by decide +kernel)) (fun _ h9 => h9) rfl dX6_addCopy_91 ?_
      refine lv_iconst (v := (-1)) hx hb dX6_addCopy_94 (by decide) ?_
      obtain ⟨hb_15, h⟩ := h
      refine zw_iast hx hb hE.1 hW mC_4 hb_15 dX6_addCopy_95 mP_4 (fun H locs hW => ?_)
      obtain ⟨m16, em16⟩ : ∃ y, y = mset m14 4 (m14 7 0).toNatClampNeg (-1) := ⟨_, rfl⟩
      rw [← em16] at hW
      replace h := h m16 em16
      refine lv_aload_n hx hb dX6_addCopy_96 rfl (lv_at hl 0 rfl) ?_
      refine zw_get (C := RX6) (T := TX6) (N := 24) hx hb hts hin6 hown hE.1 hW mC_M rfl 5 (by decide) (hts (.fieldLink RX6 25 "UnionListModel" "harmed" "[I") (by decide +kernel)) (fun _ h9 => h9) rfl dX6_addCopy_97 ?_
      refine lv_aload_n hx hb dX6_addCopy_100 rfl (lv_at hl 0 rfl) ?_
      refine zw_get (C := RX6) (T := TX6) (N := 24) hx hb hts hin6 hown hE.1 hW mC_M rfl 7 (by decide) (hts (.fieldLink RX6 75 "UnionListModel" "copies" "I") (by decide +kernel)) (fun _ h9 => h9) rfl dX6_addCopy_101 ?_
      refine lv_iconst (v := (-1)) hx hb dX6_addCopy_104 (by decide) ?_
      obtain ⟨hb_17, h⟩ := h
      refine zw_iast hx hb hE.1 hW mC_5 hb_17 dX6_addCopy_105 mP_5 (fun H locs hW => ?_)
      obtain ⟨m18, em18⟩ : ∃ y, y = mset m16 5 (m16 7 0).toNatClampNeg (-1) := ⟨_, rfl⟩
      rw [← em18] at hW
      replace h := h m18 em18
      refine lv_aload_n hx hb dX6_addCopy_106 rfl (lv_at hl 0 rfl) ?_
      refine lv_aload_n hx hb dX6_addCopy_107 rfl (lv_at hl 0 rfl) ?_
      refine zw_get (C := RX6) (T := TX6) (N := 24) hx hb hts hin6 hown hE.1 hW mC_M rfl 7 (by decide) (hts (.fieldLink RX6 75 "UnionListModel" "copies" "I") (by decide +kernel)) (fun _ h9 => h9) rfl dX6_addCopy_108 ?_
      refine lv_iconst (v := 1) hx hb dX6_addCopy_111 (by decide) ?_
      refine zc_v (va_runV (As := [.int (m18 7 0), .int 1]) (rest := []) ⟨hx, hb, hml, hown, hts⟩ (cX6_tell_ok l hlt D S0 g m18 (m18 7 0) 1 _ h) (cwV 2 hts gX6_addCopy_X6_tell rfl rfl rfl (by decide +kernel) ⟨Nat.le_of_ble_eq_true rfl, Nat.le_of_ble_eq_true rfl⟩) (zpreV (q := (RX6, TX6, 24)) hE hs hW mC_M rfl) rfl rfl hl.1 rfl (lv_room (Nat.le_of_ble_eq_true rfl)) dX6_addCopy_112 ⟨by show _ ≤ 0; omega, by show _ ≤ 8 * (0); omega⟩) hW (fun m20 H locs h hW => ?_)
      refine W.widen (k := 0) (n := 8 * (0)) (by omega) (by omega) ?_
      refine lv_aload_n hx hb dX6_addCopy_115 rfl (lv_at hl 0 rfl) ?_
      refine lv_dup hx hb dX6_addCopy_116 rfl ?_
      refine zw_get (C := RX6) (T := TX6) (N := 24) hx hb hts hin6 hown hE.1 hW mC_M rfl 7 (by decide) (hts (.fieldLink RX6 75 "UnionListModel" "copies" "I") (by decide +kernel)) (fun _ h9 => h9) rfl dX6_addCopy_117 ?_
      refine lv_iconst (v := 1) hx hb dX6_addCopy_120 (by decide) ?_
      refine lv_iadd hx hb dX6_addCopy_121 ?_
      refine zw_put (C := RX6) (T := TX6) (N := 24) hx hb hts hin6 tyX6 tyX6_ok nmX6 hown hE.1 hW mC_M rfl 7 (by decide) (hts (.fieldLink RX6 75 "UnionListModel" "copies" "I") (by decide +kernel)) (fun _ h9 => h9) rfl rfl rfl (Nat.le_of_ble_eq_true rfl) dX6_addCopy_122 mP_7 (fun H locs hW => ?_)
      obtain ⟨m21, em21⟩ : ∃ y, y = mset m20 7 0 ((m20 7 0) + 1) := ⟨_, rfl⟩
      rw [← em21] at hW
      replace h := h m21 em21
      refine lv_aload_n hx hb dX6_addCopy_125 rfl (lv_at hl 0 rfl) ?_
      refine zw_get (C := RX6) (T := TX6) (N := 24) hx hb hts hin6 hown hE.1 hW mC_M rfl 7 (by decide) (hts (.fieldLink RX6 75 "UnionListModel" "copies" "I") (by decide +kernel)) (fun _ h9 => h9) rfl dX6_addCopy_126 ?_
      refine lv_iconst (v := 1) hx hb dX6_addCopy_129 (by decide) ?_
      refine lv_isub hx hb dX6_addCopy_130 ?_
      refine W.widen (k := 0) (n := 8 * (0)) (by omega) (by omega) ?_
      exact (z_iret hx hb hr hlocks hW h dX6_addCopy_131)
    · replace h := h.2 c_6
      refine lv_iconst (v := (-1)) hx hb dX6_addCopy_44 (by decide) ?_
      refine W.widen (k := 0) (n := 8 * (0)) (by omega) (by omega) ?_
      exact (z_iret hx hb hr hlocks hW h dX6_addCopy_45)
  · replace h := h.2 c_3
    refine lv_aload_n hx hb dX6_addCopy_9 rfl (lv_at hl 0 rfl) ?_
    refine lv_iload_n hx hb dX6_addCopy_10 rfl (lv_at hl 2 rfl) ?_
    refine lv_iconst (v := 0) hx hb dX6_addCopy_11 (by decide) ?_
    refine lv_bipush (v := 7) hx hb dX6_addCopy_12 (by decide) ?_
    refine zc_i (va_runV (As := [.int p2, .int 0, .int 7]) (rest := [.ref (S0 + 9)]) ⟨hx, hb, hml, hown, hts⟩ (cX6_between_ok l hlt D S0 g m2 p2 0 7 _ h) (cwV 3 hts gX6_addCopy_X6_between rfl rfl rfl (by decide +kernel) ⟨Nat.le_of_ble_eq_true rfl, Nat.le_of_ble_eq_true rfl⟩) (zpreV (q := (RX6, TX6, 24)) hE hs hW mC_M rfl) rfl rfl hl.1 rfl (lv_room (Nat.le_of_ble_eq_true rfl)) dX6_addCopy_14 ⟨by show _ ≤ 0; omega, by show _ ≤ 8 * (0); omega⟩) hW (fun r22 m23 H locs h hW => ?_)
    obtain ⟨h, hz_r22⟩ := h
    refine W.widen (k := 0) (n := 8 * (0)) (by omega) (by omega) ?_
    refine lv_if_ne (tgt := 24) hx hb dX6_addCopy_17 (by decide) (fun c_24 => ?_) (fun c_24 => ?_)
    · replace h := h.2 c_24
      refine lv_aload_n hx hb dX6_addCopy_24 rfl (lv_at hl 0 rfl) ?_
      refine zw_get (C := RX6) (T := TX6) (N := 24) hx hb hts hin6 hown hE.1 hW mC_M rfl 7 (by decide) (hts (.fieldLink RX6 75 "UnionListModel" "copies" "I") (by decide +kernel)) (fun _ h9 => h9) rfl dX6_addCopy_25 ?_
      refine lv_bipush (v := 20) hx hb dX6_addCopy_28 (by decide) ?_
      refine lv_icmp_ne (tgt := 37) hx hb dX6_addCopy_30 (by decide) (fun c_25 => ?_) (fun c_25 => ?_)
      · replace h := h.2 c_25
        refine lv_iconst (v := 0) hx hb dX6_addCopy_37 (by decide) ?_
        refine zc_i (va_runV (As := [.int 0]) (rest := []) ⟨hx, hb, hml, hown, hts⟩ (cX6_holds_ok l hlt D S0 g m23 0 _ h) (cwV 1 hts gX6_addCopy_X6_holds rfl rfl rfl (by decide +kernel) ⟨Nat.le_of_ble_eq_true rfl, Nat.le_of_ble_eq_true rfl⟩) (zpreV (q := (RX6, TX6, 24)) hE hs hW mC_M rfl) rfl rfl hl.1 rfl (lv_room (Nat.le_of_ble_eq_true rfl)) dX6_addCopy_38 ⟨by show _ ≤ 0; omega, by show _ ≤ 8 * (0); omega⟩) hW (fun r26 m27 H locs h hW => ?_)
        obtain ⟨h, hz_r26⟩ := h
        refine W.widen (k := 0) (n := 8 * (0)) (by omega) (by omega) ?_
        refine lv_if_eq (tgt := 46) hx hb dX6_addCopy_41 (by decide) (fun c_28 => ?_) (fun c_28 => ?_)
        · replace h := h.1 c_28
          refine lv_aload_n hx hb dX6_addCopy_46 rfl (lv_at hl 0 rfl) ?_
          refine zw_get (C := RX6) (T := TX6) (N := 24) hx hb hts hin6 hown hE.1 hW mC_M rfl 0 (by decide) (hts (.fieldLink RX6 7 "UnionListModel" "home" "[I") (by decide +kernel)) (fun _ h9 => h9) rfl dX6_addCopy_47 ?_
          refine lv_aload_n hx hb dX6_addCopy_50 rfl (lv_at hl 0 rfl) ?_
          refine zw_get (C := RX6) (T := TX6) (N := 24) hx hb hts hin6 hown hE.1 hW mC_M rfl 7 (by decide) (hts (.fieldLink RX6 75 "UnionListModel" "copies" "I") (by decide +kernel)) (fun _ h9 => h9) rfl dX6_addCopy_51 ?_
          refine lv_iload_n hx hb dX6_addCopy_54 rfl (lv_at hl 1 rfl) ?_
          obtain ⟨hb_29, h⟩ := h
          refine zw_iast hx hb hE.1 hW mC_0 hb_29 dX6_addCopy_55 mP_0 (fun H locs hW => ?_)
          obtain ⟨m30, em30⟩ : ∃ y, y = mset m27 0 (m27 7 0).toNatClampNeg p1 := ⟨_, rfl⟩
          rw [← em30] at hW
          replace h := h m30 em30
          refine lv_aload_n hx hb dX6_addCopy_56 rfl (lv_at hl 0 rfl) ?_
          refine zw_get (C := RX6) (T := TX6) (N := 24) hx hb hts hin6 hown hE.1 hW mC_M rfl 1 (by decide) (hts (.fieldLink RX6 13 "UnionListModel" "title" "[I") (by decide +kernel)) (fun _ h9 => h9) rfl dX6_addCopy_57 ?_
          refine lv_aload_n hx hb dX6_addCopy_60 rfl (lv_at hl 0 rfl) ?_
          refine zw_get (C := RX6) (T := TX6) (N := 24) hx hb hts hin6 hown hE.1 hW mC_M rfl 7 (by decide) (hts (.fieldLink RX6 75 "UnionListModel" "copies" "I") (by decide +kernel)) (fun _ h9 => h9) rfl dX6_addCopy_61 ?_
          refine lv_iload_n hx hb dX6_addCopy_64 rfl (lv_at hl 2 rfl) ?_
          obtain ⟨hb_31, h⟩ := h
          refine zw_iast hx hb hE.1 hW mC_1 hb_31 dX6_addCopy_65 mP_1 (fun H locs hW => ?_)
          obtain ⟨m32, em32⟩ : ∃ y, y = mset m30 1 (m30 7 0).toNatClampNeg p2 := ⟨_, rfl⟩
          rw [← em32] at hW
          replace h := h m32 em32
          refine lv_aload_n hx hb dX6_addCopy_66 rfl (lv_at hl 0 rfl) ?_
          refine zw_get (C := RX6) (T := TX6) (N := 24) hx hb hts hin6 hown hE.1 hW mC_M rfl 2 (by decide) (hts (.fieldLink RX6 16 "UnionListModel" "place" "[I") (by decide +kernel)) (fun _ h9 => h9) rfl dX6_addCopy_67 ?_
          refine lv_aload_n hx hb dX6_addCopy_70 rfl (lv_at hl 0 rfl) ?_
          refine zw_get (C := RX6) (T := TX6) (N := 24) hx hb hts hin6 hown hE.1 hW mC_M rfl 7 (by decide) (hts (.fieldLink RX6 75 "UnionListModel" "copies" "I") (by decide +kernel)) (fun _ h9 => h9) rfl dX6_addCopy_71 ?_
          refine lv_iload_n hx hb dX6_addCopy_74 rfl (lv_at hl 1 rfl) ?_
          obtain ⟨hb_33, h⟩ := h
          refine zw_iast hx hb hE.1 hW mC_2 hb_33 dX6_addCopy_75 mP_2 (fun H locs hW => ?_)
          obtain ⟨m34, em34⟩ : ∃ y, y = mset m32 2 (m32 7 0).toNatClampNeg p1 := ⟨_, rfl⟩
          rw [← em34] at hW
          replace h := h m34 em34
          refine lv_aload_n hx hb dX6_addCopy_76 rfl (lv_at hl 0 rfl) ?_
          refine zw_get (C := RX6) (T := TX6) (N := 24) hx hb hts hin6 hown hE.1 hW mC_M rfl 3 (by decide) (hts (.fieldLink RX6 19 "UnionListModel" "hands" "[I") (by decide +kernel)) (fun _ h9 => h9) rfl dX6_addCopy_77 ?_
          refine lv_aload_n hx hb dX6_addCopy_80 rfl (lv_at hl 0 rfl) ?_
          refine zw_get (C := RX6) (T := TX6) (N := 24) hx hb hts hin6 hown hE.1 hW mC_M rfl 7 (by decide) (hts (.fieldLink RX6 75 "UnionListModel" "copies" "I") (by decide +kernel)) (fun _ h9 => h9) rfl dX6_addCopy_81 ?_
          refine lv_iload_n hx hb dX6_addCopy_84 rfl (lv_at hl 1 rfl) ?_
          obtain ⟨hb_35, h⟩ := h
          refine zw_iast hx hb hE.1 hW mC_3 hb_35 dX6_addCopy_85 mP_3 (fun H locs hW => ?_)
          obtain ⟨m36, em36⟩ : ∃ y, y = mset m34 3 (m34 7 0).toNatClampNeg p1 := ⟨_, rfl⟩
          rw [← em36] at hW
          replace h := h m36 em36
          refine lv_aload_n hx hb dX6_addCopy_86 rfl (lv_at hl 0 rfl) ?_
          refine zw_get (C := RX6) (T := TX6) (N := 24) hx hb hts hin6 hown hE.1 hW mC_M rfl 4 (by decide) (hts (.fieldLink RX6 22 "UnionListModel" "knows" "[I") (by decide +kernel)) (fun _ h9 => h9) rfl dX6_addCopy_87 ?_
          refine lv_aload_n hx hb dX6_addCopy_90 rfl (lv_at hl 0 rfl) ?_
          refine zw_get (C := RX6) (T := TX6) (N := 24) hx hb hts hin6 hown hE.1 hW mC_M rfl 7 (by decide) (hts (.fieldLink RX6 75 "UnionListModel" "copies" "I") (by decide +kernel)) (fun _ h9 => h9) rfl dX6_addCopy_91 ?_
          refine lv_iconst (v := (-1)) hx hb dX6_addCopy_94 (by decide) ?_
          obtain ⟨hb_37, h⟩ := h
          refine zw_iast hx hb hE.1 hW mC_4 hb_37 dX6_addCopy_95 mP_4 (fun H locs hW => ?_)
          obtain ⟨m38, em38⟩ : ∃ y, y = mset m36 4 (m36 7 0).toNatClampNeg (-1) := ⟨_, rfl⟩
          rw [← em38] at hW
          replace h := h m38 em38
          refine lv_aload_n hx hb dX6_addCopy_96 rfl (lv_at hl 0 rfl) ?_
          refine zw_get (C := RX6) (T := TX6) (N := 24) hx hb hts hin6 hown hE.1 hW mC_M rfl 5 (by decide) (hts (.fieldLink RX6 25 "UnionListModel" "harmed" "[I") (by decide +kernel)) (fun _ h9 => h9) rfl dX6_addCopy_97 ?_
          refine lv_aload_n hx hb dX6_addCopy_100 rfl (lv_at hl 0 rfl) ?_
          refine zw_get (C := RX6) (T := TX6) (N := 24) hx hb hts hin6 hown hE.1 hW mC_M rfl 7 (by decide) (hts (.fieldLink RX6 75 "UnionListModel" "copies" "I") (by decide +kernel)) (fun _ h9 => h9) rfl dX6_addCopy_101 ?_
          refine lv_iconst (v := (-1)) hx hb dX6_addCopy_104 (by decide) ?_
          obtain ⟨hb_39, h⟩ := h
          refine zw_iast hx hb hE.1 hW mC_5 hb_39 dX6_addCopy_105 mP_5 (fun H locs hW => ?_)
          obtain ⟨m40, em40⟩ : ∃ y, y = mset m38 5 (m38 7 0).toNatClampNeg (-1) := ⟨_, rfl⟩
          rw [← em40] at hW
          replace h := h m40 em40
          refine lv_aload_n hx hb dX6_addCopy_106 rfl (lv_at hl 0 rfl) ?_
          refine lv_aload_n hx hb dX6_addCopy_107 rfl (lv_at hl 0 rfl) ?_
          refine zw_get (C := RX6) (T := TX6) (N := 24) hx hb hts hin6 hown hE.1 hW mC_M rfl 7 (by decide) (hts (.fieldLink RX6 75 "UnionListModel" "copies" "I") (by decide +kernel)) (fun _ h9 => h9) rfl dX6_addCopy_108 ?_
          refine lv_iconst (v := 1) hx hb dX6_addCopy_111 (by decide) ?_
          refine zc_v (va_runV (As := [.int (m40 7 0), .int 1]) (rest := []) ⟨hx, hb, hml, hown, hts⟩ (cX6_tell_ok l hlt D S0 g m40 (m40 7 0) 1 _ h) (cwV 2 hts gX6_addCopy_X6_tell rfl rfl rfl (by decide +kernel) ⟨Nat.le_of_ble_eq_true rfl, Nat.le_of_ble_eq_true rfl⟩) (zpreV (q := (RX6, TX6, 24)) hE hs hW mC_M rfl) rfl rfl hl.1 rfl (lv_room (Nat.le_of_ble_eq_true rfl)) dX6_addCopy_112 ⟨by show _ ≤ 0; omega, by show _ ≤ 8 * (0); omega⟩) hW (fun m42 H locs h hW => ?_)
          refine W.widen (k := 0) (n := 8 * (0)) (by omega) (by omega) ?_
          refine lv_aload_n hx hb dX6_addCopy_115 rfl (lv_at hl 0 rfl) ?_
          refine lv_dup hx hb dX6_addCopy_116 rfl ?_
          refine zw_get (C := RX6) (T := TX6) (N := 24) hx hb hts hin6 hown hE.1 hW mC_M rfl 7 (by decide) (hts (.fieldLink RX6 75 "UnionListModel" "copies" "I") (by decide +kernel)) (fun _ h9 => h9) rfl dX6_addCopy_117 ?_
          refine lv_iconst (v := 1) hx hb dX6_addCopy_120 (by decide) ?_
          refine lv_iadd hx hb dX6_addCopy_121 ?_
          refine zw_put (C := RX6) (T := TX6) (N := 24) hx hb hts hin6 tyX6 tyX6_ok nmX6 hown hE.1 hW mC_M rfl 7 (by decide) (hts (.fieldLink RX6 75 "UnionListModel" "copies" "I") (by decide +kernel)) (fun _ h9 => h9) rfl rfl rfl (Nat.le_of_ble_eq_true rfl) dX6_addCopy_122 mP_7 (fun H locs hW => ?_)
          obtain ⟨m43, em43⟩ : ∃ y, y = mset m42 7 0 ((m42 7 0) + 1) := ⟨_, rfl⟩
          rw [← em43] at hW
          replace h := h m43 em43
          refine lv_aload_n hx hb dX6_addCopy_125 rfl (lv_at hl 0 rfl) ?_
          refine zw_get (C := RX6) (T := TX6) (N := 24) hx hb hts hin6 hown hE.1 hW mC_M rfl 7 (by decide) (hts (.fieldLink RX6 75 "UnionListModel" "copies" "I") (by decide +kernel)) (fun _ h9 => h9) rfl dX6_addCopy_126 ?_
          refine lv_iconst (v := 1) hx hb dX6_addCopy_129 (by decide) ?_
          refine lv_isub hx hb dX6_addCopy_130 ?_
          refine W.widen (k := 0) (n := 8 * (0)) (by omega) (by omega) ?_
          exact (z_iret hx hb hr hlocks hW h dX6_addCopy_131)
        · replace h := h.2 c_28
          refine lv_iconst (v := (-1)) hx hb dX6_addCopy_44 (by decide) ?_
          refine W.widen (k := 0) (n := 8 * (0)) (by omega) (by omega) ?_
          exact (z_iret hx hb hr hlocks hW h dX6_addCopy_45)
      · replace h := h.1 c_25
        refine lv_iconst (v := 2) hx hb dX6_addCopy_33 (by decide) ?_
        refine lv_goto (tgt := 38) hx hb dX6_addCopy_34 (by decide) ?_
        refine zc_i (va_runV (As := [.int 2]) (rest := []) ⟨hx, hb, hml, hown, hts⟩ (cX6_holds_ok l hlt D S0 g m23 2 _ h) (cwV 1 hts gX6_addCopy_X6_holds rfl rfl rfl (by decide +kernel) ⟨Nat.le_of_ble_eq_true rfl, Nat.le_of_ble_eq_true rfl⟩) (zpreV (q := (RX6, TX6, 24)) hE hs hW mC_M rfl) rfl rfl hl.1 rfl (lv_room (Nat.le_of_ble_eq_true rfl)) dX6_addCopy_38 ⟨by show _ ≤ 0; omega, by show _ ≤ 8 * (0); omega⟩) hW (fun r44 m45 H locs h hW => ?_)
        obtain ⟨h, hz_r44⟩ := h
        refine W.widen (k := 0) (n := 8 * (0)) (by omega) (by omega) ?_
        refine lv_if_eq (tgt := 46) hx hb dX6_addCopy_41 (by decide) (fun c_46 => ?_) (fun c_46 => ?_)
        · replace h := h.1 c_46
          refine lv_aload_n hx hb dX6_addCopy_46 rfl (lv_at hl 0 rfl) ?_
          refine zw_get (C := RX6) (T := TX6) (N := 24) hx hb hts hin6 hown hE.1 hW mC_M rfl 0 (by decide) (hts (.fieldLink RX6 7 "UnionListModel" "home" "[I") (by decide +kernel)) (fun _ h9 => h9) rfl dX6_addCopy_47 ?_
          refine lv_aload_n hx hb dX6_addCopy_50 rfl (lv_at hl 0 rfl) ?_
          refine zw_get (C := RX6) (T := TX6) (N := 24) hx hb hts hin6 hown hE.1 hW mC_M rfl 7 (by decide) (hts (.fieldLink RX6 75 "UnionListModel" "copies" "I") (by decide +kernel)) (fun _ h9 => h9) rfl dX6_addCopy_51 ?_
          refine lv_iload_n hx hb dX6_addCopy_54 rfl (lv_at hl 1 rfl) ?_
          obtain ⟨hb_47, h⟩ := h
          refine zw_iast hx hb hE.1 hW mC_0 hb_47 dX6_addCopy_55 mP_0 (fun H locs hW => ?_)
          obtain ⟨m48, em48⟩ : ∃ y, y = mset m45 0 (m45 7 0).toNatClampNeg p1 := ⟨_, rfl⟩
          rw [← em48] at hW
          replace h := h m48 em48
          refine lv_aload_n hx hb dX6_addCopy_56 rfl (lv_at hl 0 rfl) ?_
          refine zw_get (C := RX6) (T := TX6) (N := 24) hx hb hts hin6 hown hE.1 hW mC_M rfl 1 (by decide) (hts (.fieldLink RX6 13 "UnionListModel" "title" "[I") (by decide +kernel)) (fun _ h9 => h9) rfl dX6_addCopy_57 ?_
          refine lv_aload_n hx hb dX6_addCopy_60 rfl (lv_at hl 0 rfl) ?_
          refine zw_get (C := RX6) (T := TX6) (N := 24) hx hb hts hin6 hown hE.1 hW mC_M rfl 7 (by decide) (hts (.fieldLink RX6 75 "UnionListModel" "copies" "I") (by decide +kernel)) (fun _ h9 => h9) rfl dX6_addCopy_61 ?_
          refine lv_iload_n hx hb dX6_addCopy_64 rfl (lv_at hl 2 rfl) ?_
          obtain ⟨hb_49, h⟩ := h
          refine zw_iast hx hb hE.1 hW mC_1 hb_49 dX6_addCopy_65 mP_1 (fun H locs hW => ?_)
          obtain ⟨m50, em50⟩ : ∃ y, y = mset m48 1 (m48 7 0).toNatClampNeg p2 := ⟨_, rfl⟩
          rw [← em50] at hW
          replace h := h m50 em50
          refine lv_aload_n hx hb dX6_addCopy_66 rfl (lv_at hl 0 rfl) ?_
          refine zw_get (C := RX6) (T := TX6) (N := 24) hx hb hts hin6 hown hE.1 hW mC_M rfl 2 (by decide) (hts (.fieldLink RX6 16 "UnionListModel" "place" "[I") (by decide +kernel)) (fun _ h9 => h9) rfl dX6_addCopy_67 ?_
          refine lv_aload_n hx hb dX6_addCopy_70 rfl (lv_at hl 0 rfl) ?_
          refine zw_get (C := RX6) (T := TX6) (N := 24) hx hb hts hin6 hown hE.1 hW mC_M rfl 7 (by decide) (hts (.fieldLink RX6 75 "UnionListModel" "copies" "I") (by decide +kernel)) (fun _ h9 => h9) rfl dX6_addCopy_71 ?_
          refine lv_iload_n hx hb dX6_addCopy_74 rfl (lv_at hl 1 rfl) ?_
          obtain ⟨hb_51, h⟩ := h
          refine zw_iast hx hb hE.1 hW mC_2 hb_51 dX6_addCopy_75 mP_2 (fun H locs hW => ?_)
          obtain ⟨m52, em52⟩ : ∃ y, y = mset m50 2 (m50 7 0).toNatClampNeg p1 := ⟨_, rfl⟩
          rw [← em52] at hW
          replace h := h m52 em52
          refine lv_aload_n hx hb dX6_addCopy_76 rfl (lv_at hl 0 rfl) ?_
          refine zw_get (C := RX6) (T := TX6) (N := 24) hx hb hts hin6 hown hE.1 hW mC_M rfl 3 (by decide) (hts (.fieldLink RX6 19 "UnionListModel" "hands" "[I") (by decide +kernel)) (fun _ h9 => h9) rfl dX6_addCopy_77 ?_
          refine lv_aload_n hx hb dX6_addCopy_80 rfl (lv_at hl 0 rfl) ?_
          refine zw_get (C := RX6) (T := TX6) (N := 24) hx hb hts hin6 hown hE.1 hW mC_M rfl 7 (by decide) (hts (.fieldLink RX6 75 "UnionListModel" "copies" "I") (by decide +kernel)) (fun _ h9 => h9) rfl dX6_addCopy_81 ?_
          refine lv_iload_n hx hb dX6_addCopy_84 rfl (lv_at hl 1 rfl) ?_
          obtain ⟨hb_53, h⟩ := h
          refine zw_iast hx hb hE.1 hW mC_3 hb_53 dX6_addCopy_85 mP_3 (fun H locs hW => ?_)
          obtain ⟨m54, em54⟩ : ∃ y, y = mset m52 3 (m52 7 0).toNatClampNeg p1 := ⟨_, rfl⟩
          rw [← em54] at hW
          replace h := h m54 em54
          refine lv_aload_n hx hb dX6_addCopy_86 rfl (lv_at hl 0 rfl) ?_
          refine zw_get (C := RX6) (T := TX6) (N := 24) hx hb hts hin6 hown hE.1 hW mC_M rfl 4 (by decide) (hts (.fieldLink RX6 22 "UnionListModel" "knows" "[I") (by decide +kernel)) (fun _ h9 => h9) rfl dX6_addCopy_87 ?_
          refine lv_aload_n hx hb dX6_addCopy_90 rfl (lv_at hl 0 rfl) ?_
          refine zw_get (C := RX6) (T := TX6) (N := 24) hx hb hts hin6 hown hE.1 hW mC_M rfl 7 (by decide) (hts (.fieldLink RX6 75 "UnionListModel" "copies" "I") (by decide +kernel)) (fun _ h9 => h9) rfl dX6_addCopy_91 ?_
          refine lv_iconst (v := (-1)) hx hb dX6_addCopy_94 (by decide) ?_
          obtain ⟨hb_55, h⟩ := h
          refine zw_iast hx hb hE.1 hW mC_4 hb_55 dX6_addCopy_95 mP_4 (fun H locs hW => ?_)
          obtain ⟨m56, em56⟩ : ∃ y, y = mset m54 4 (m54 7 0).toNatClampNeg (-1) := ⟨_, rfl⟩
          rw [← em56] at hW
          replace h := h m56 em56
          refine lv_aload_n hx hb dX6_addCopy_96 rfl (lv_at hl 0 rfl) ?_
          refine zw_get (C := RX6) (T := TX6) (N := 24) hx hb hts hin6 hown hE.1 hW mC_M rfl 5 (by decide) (hts (.fieldLink RX6 25 "UnionListModel" "harmed" "[I") (by decide +kernel)) (fun _ h9 => h9) rfl dX6_addCopy_97 ?_
          refine lv_aload_n hx hb dX6_addCopy_100 rfl (lv_at hl 0 rfl) ?_
          refine zw_get (C := RX6) (T := TX6) (N := 24) hx hb hts hin6 hown hE.1 hW mC_M rfl 7 (by decide) (hts (.fieldLink RX6 75 "UnionListModel" "copies" "I") (by decide +kernel)) (fun _ h9 => h9) rfl dX6_addCopy_101 ?_
          refine lv_iconst (v := (-1)) hx hb dX6_addCopy_104 (by decide) ?_
          obtain ⟨hb_57, h⟩ := h
          refine zw_iast hx hb hE.1 hW mC_5 hb_57 dX6_addCopy_105 mP_5 (fun H locs hW => ?_)
          obtain ⟨m58, em58⟩ : ∃ y, y = mset m56 5 (m56 7 0).toNatClampNeg (-1) := ⟨_, rfl⟩
          rw [← em58] at hW
          replace h := h m58 em58
          refine lv_aload_n hx hb dX6_addCopy_106 rfl (lv_at hl 0 rfl) ?_
          refine lv_aload_n hx hb dX6_addCopy_107 rfl (lv_at hl 0 rfl) ?_
          refine zw_get (C := RX6) (T := TX6) (N := 24) hx hb hts hin6 hown hE.1 hW mC_M rfl 7 (by decide) (hts (.fieldLink RX6 75 "UnionListModel" "copies" "I") (by decide +kernel)) (fun _ h9 => h9) rfl dX6_addCopy_108 ?_
          refine lv_iconst (v := 1) hx hb dX6_addCopy_111 (by decide) ?_
          refine zc_v (va_runV (As := [.int (m58 7 0), .int 1]) (rest := []) ⟨hx, hb, hml, hown, hts⟩ (cX6_tell_ok l hlt D S0 g m58 (m58 7 0) 1 _ h) (cwV 2 hts gX6_addCopy_X6_tell rfl rfl rfl (by decide +kernel) ⟨Nat.le_of_ble_eq_true rfl, Nat.le_of_ble_eq_true rfl⟩) (zpreV (q := (RX6, TX6, 24)) hE hs hW mC_M rfl) rfl rfl hl.1 rfl (lv_room (Nat.le_of_ble_eq_true rfl)) dX6_addCopy_112 ⟨by show _ ≤ 0; omega, by show _ ≤ 8 * (0); omega⟩) hW (fun m60 H locs h hW => ?_)
          refine W.widen (k := 0) (n := 8 * (0)) (by omega) (by omega) ?_
          refine lv_aload_n hx hb dX6_addCopy_115 rfl (lv_at hl 0 rfl) ?_
          refine lv_dup hx hb dX6_addCopy_116 rfl ?_
          refine zw_get (C := RX6) (T := TX6) (N := 24) hx hb hts hin6 hown hE.1 hW mC_M rfl 7 (by decide) (hts (.fieldLink RX6 75 "UnionListModel" "copies" "I") (by decide +kernel)) (fun _ h9 => h9) rfl dX6_addCopy_117 ?_
          refine lv_iconst (v := 1) hx hb dX6_addCopy_120 (by decide) ?_
          refine lv_iadd hx hb dX6_addCopy_121 ?_
          refine zw_put (C := RX6) (T := TX6) (N := 24) hx hb hts hin6 tyX6 tyX6_ok nmX6 hown hE.1 hW mC_M rfl 7 (by decide) (hts (.fieldLink RX6 75 "UnionListModel" "copies" "I") (by decide +kernel)) (fun _ h9 => h9) rfl rfl rfl (Nat.le_of_ble_eq_true rfl) dX6_addCopy_122 mP_7 (fun H locs hW => ?_)
          obtain ⟨m61, em61⟩ : ∃ y, y = mset m60 7 0 ((m60 7 0) + 1) := ⟨_, rfl⟩
          rw [← em61] at hW
          replace h := h m61 em61
          refine lv_aload_n hx hb dX6_addCopy_125 rfl (lv_at hl 0 rfl) ?_
          refine zw_get (C := RX6) (T := TX6) (N := 24) hx hb hts hin6 hown hE.1 hW mC_M rfl 7 (by decide) (hts (.fieldLink RX6 75 "UnionListModel" "copies" "I") (by decide +kernel)) (fun _ h9 => h9) rfl dX6_addCopy_126 ?_
          refine lv_iconst (v := 1) hx hb dX6_addCopy_129 (by decide) ?_
          refine lv_isub hx hb dX6_addCopy_130 ?_
          refine W.widen (k := 0) (n := 8 * (0)) (by omega) (by omega) ?_
          exact (z_iret hx hb hr hlocks hW h dX6_addCopy_131)
        · replace h := h.2 c_46
          refine lv_iconst (v := (-1)) hx hb dX6_addCopy_44 (by decide) ?_
          refine W.widen (k := 0) (n := 8 * (0)) (by omega) (by omega) ?_
          exact (z_iret hx hb hr hlocks hW h dX6_addCopy_45)
    · replace h := h.1 c_24
      refine lv_iconst (v := 1) hx hb dX6_addCopy_20 (by decide) ?_
      refine lv_goto (tgt := 38) hx hb dX6_addCopy_21 (by decide) ?_
      refine zc_i (va_runV (As := [.int 1]) (rest := []) ⟨hx, hb, hml, hown, hts⟩ (cX6_holds_ok l hlt D S0 g m23 1 _ h) (cwV 1 hts gX6_addCopy_X6_holds rfl rfl rfl (by decide +kernel) ⟨Nat.le_of_ble_eq_true rfl, Nat.le_of_ble_eq_true rfl⟩) (zpreV (q := (RX6, TX6, 24)) hE hs hW mC_M rfl) rfl rfl hl.1 rfl (lv_room (Nat.le_of_ble_eq_true rfl)) dX6_addCopy_38 ⟨by show _ ≤ 0; omega, by show _ ≤ 8 * (0); omega⟩) hW (fun r62 m63 H locs h hW => ?_)
      obtain ⟨h, hz_r62⟩ := h
      refine W.widen (k := 0) (n := 8 * (0)) (by omega) (by omega) ?_
      refine lv_if_eq (tgt := 46) hx hb dX6_addCopy_41 (by decide) (fun c_64 => ?_) (fun c_64 => ?_)
      · replace h := h.1 c_64
        refine lv_aload_n hx hb dX6_addCopy_46 rfl (lv_at hl 0 rfl) ?_
        refine zw_get (C := RX6) (T := TX6) (N := 24) hx hb hts hin6 hown hE.1 hW mC_M rfl 0 (by decide) (hts (.fieldLink RX6 7 "UnionListModel" "home" "[I") (by decide +kernel)) (fun _ h9 => h9) rfl dX6_addCopy_47 ?_
        refine lv_aload_n hx hb dX6_addCopy_50 rfl (lv_at hl 0 rfl) ?_
        refine zw_get (C := RX6) (T := TX6) (N := 24) hx hb hts hin6 hown hE.1 hW mC_M rfl 7 (by decide) (hts (.fieldLink RX6 75 "UnionListModel" "copies" "I") (by decide +kernel)) (fun _ h9 => h9) rfl dX6_addCopy_51 ?_
        refine lv_iload_n hx hb dX6_addCopy_54 rfl (lv_at hl 1 rfl) ?_
        obtain ⟨hb_65, h⟩ := h
        refine zw_iast hx hb hE.1 hW mC_0 hb_65 dX6_addCopy_55 mP_0 (fun H locs hW => ?_)
        obtain ⟨m66, em66⟩ : ∃ y, y = mset m63 0 (m63 7 0).toNatClampNeg p1 := ⟨_, rfl⟩
        rw [← em66] at hW
        replace h := h m66 em66
        refine lv_aload_n hx hb dX6_addCopy_56 rfl (lv_at hl 0 rfl) ?_
        refine zw_get (C := RX6) (T := TX6) (N := 24) hx hb hts hin6 hown hE.1 hW mC_M rfl 1 (by decide) (hts (.fieldLink RX6 13 "UnionListModel" "title" "[I") (by decide +kernel)) (fun _ h9 => h9) rfl dX6_addCopy_57 ?_
        refine lv_aload_n hx hb dX6_addCopy_60 rfl (lv_at hl 0 rfl) ?_
        refine zw_get (C := RX6) (T := TX6) (N := 24) hx hb hts hin6 hown hE.1 hW mC_M rfl 7 (by decide) (hts (.fieldLink RX6 75 "UnionListModel" "copies" "I") (by decide +kernel)) (fun _ h9 => h9) rfl dX6_addCopy_61 ?_
        refine lv_iload_n hx hb dX6_addCopy_64 rfl (lv_at hl 2 rfl) ?_
        obtain ⟨hb_67, h⟩ := h
        refine zw_iast hx hb hE.1 hW mC_1 hb_67 dX6_addCopy_65 mP_1 (fun H locs hW => ?_)
        obtain ⟨m68, em68⟩ : ∃ y, y = mset m66 1 (m66 7 0).toNatClampNeg p2 := ⟨_, rfl⟩
        rw [← em68] at hW
        replace h := h m68 em68
        refine lv_aload_n hx hb dX6_addCopy_66 rfl (lv_at hl 0 rfl) ?_
        refine zw_get (C := RX6) (T := TX6) (N := 24) hx hb hts hin6 hown hE.1 hW mC_M rfl 2 (by decide) (hts (.fieldLink RX6 16 "UnionListModel" "place" "[I") (by decide +kernel)) (fun _ h9 => h9) rfl dX6_addCopy_67 ?_
        refine lv_aload_n hx hb dX6_addCopy_70 rfl (lv_at hl 0 rfl) ?_
        refine zw_get (C := RX6) (T := TX6) (N := 24) hx hb hts hin6 hown hE.1 hW mC_M rfl 7 (by decide) (hts (.fieldLink RX6 75 "UnionListModel" "copies" "I") (by decide +kernel)) (fun _ h9 => h9) rfl dX6_addCopy_71 ?_
        refine lv_iload_n hx hb dX6_addCopy_74 rfl (lv_at hl 1 rfl) ?_
        obtain ⟨hb_69, h⟩ := h
        refine zw_iast hx hb hE.1 hW mC_2 hb_69 dX6_addCopy_75 mP_2 (fun H locs hW => ?_)
        obtain ⟨m70, em70⟩ : ∃ y, y = mset m68 2 (m68 7 0).toNatClampNeg p1 := ⟨_, rfl⟩
        rw [← em70] at hW
        replace h := h m70 em70
        refine lv_aload_n hx hb dX6_addCopy_76 rfl (lv_at hl 0 rfl) ?_
        refine zw_get (C := RX6) (T := TX6) (N := 24) hx hb hts hin6 hown hE.1 hW mC_M rfl 3 (by decide) (hts (.fieldLink RX6 19 "UnionListModel" "hands" "[I") (by decide +kernel)) (fun _ h9 => h9) rfl dX6_addCopy_77 ?_
        refine lv_aload_n hx hb dX6_addCopy_80 rfl (lv_at hl 0 rfl) ?_
        refine zw_get (C := RX6) (T := TX6) (N := 24) hx hb hts hin6 hown hE.1 hW mC_M rfl 7 (by decide) (hts (.fieldLink RX6 75 "UnionListModel" "copies" "I") (by decide +kernel)) (fun _ h9 => h9) rfl dX6_addCopy_81 ?_
        refine lv_iload_n hx hb dX6_addCopy_84 rfl (lv_at hl 1 rfl) ?_
        obtain ⟨hb_71, h⟩ := h
        refine zw_iast hx hb hE.1 hW mC_3 hb_71 dX6_addCopy_85 mP_3 (fun H locs hW => ?_)
        obtain ⟨m72, em72⟩ : ∃ y, y = mset m70 3 (m70 7 0).toNatClampNeg p1 := ⟨_, rfl⟩
        rw [← em72] at hW
        replace h := h m72 em72
        refine lv_aload_n hx hb dX6_addCopy_86 rfl (lv_at hl 0 rfl) ?_
        refine zw_get (C := RX6) (T := TX6) (N := 24) hx hb hts hin6 hown hE.1 hW mC_M rfl 4 (by decide) (hts (.fieldLink RX6 22 "UnionListModel" "knows" "[I") (by decide +kernel)) (fun _ h9 => h9) rfl dX6_addCopy_87 ?_
        refine lv_aload_n hx hb dX6_addCopy_90 rfl (lv_at hl 0 rfl) ?_
        refine zw_get (C := RX6) (T := TX6) (N := 24) hx hb hts hin6 hown hE.1 hW mC_M rfl 7 (by decide) (hts (.fieldLink RX6 75 "UnionListModel" "copies" "I") (by decide +kernel)) (fun _ h9 => h9) rfl dX6_addCopy_91 ?_
        refine lv_iconst (v := (-1)) hx hb dX6_addCopy_94 (by decide) ?_
        obtain ⟨hb_73, h⟩ := h
        refine zw_iast hx hb hE.1 hW mC_4 hb_73 dX6_addCopy_95 mP_4 (fun H locs hW => ?_)
        obtain ⟨m74, em74⟩ : ∃ y, y = mset m72 4 (m72 7 0).toNatClampNeg (-1) := ⟨_, rfl⟩
        rw [← em74] at hW
        replace h := h m74 em74
        refine lv_aload_n hx hb dX6_addCopy_96 rfl (lv_at hl 0 rfl) ?_
        refine zw_get (C := RX6) (T := TX6) (N := 24) hx hb hts hin6 hown hE.1 hW mC_M rfl 5 (by decide) (hts (.fieldLink RX6 25 "UnionListModel" "harmed" "[I") (by decide +kernel)) (fun _ h9 => h9) rfl dX6_addCopy_97 ?_
        refine lv_aload_n hx hb dX6_addCopy_100 rfl (lv_at hl 0 rfl) ?_
        refine zw_get (C := RX6) (T := TX6) (N := 24) hx hb hts hin6 hown hE.1 hW mC_M rfl 7 (by decide) (hts (.fieldLink RX6 75 "UnionListModel" "copies" "I") (by decide +kernel)) (fun _ h9 => h9) rfl dX6_addCopy_101 ?_
        refine lv_iconst (v := (-1)) hx hb dX6_addCopy_104 (by decide) ?_
        obtain ⟨hb_75, h⟩ := h
        refine zw_iast hx hb hE.1 hW mC_5 hb_75 dX6_addCopy_105 mP_5 (fun H locs hW => ?_)
        obtain ⟨m76, em76⟩ : ∃ y, y = mset m74 5 (m74 7 0).toNatClampNeg (-1) := ⟨_, rfl⟩
        rw [← em76] at hW
        replace h := h m76 em76
        refine lv_aload_n hx hb dX6_addCopy_106 rfl (lv_at hl 0 rfl) ?_
        refine lv_aload_n hx hb dX6_addCopy_107 rfl (lv_at hl 0 rfl) ?_
        refine zw_get (C := RX6) (T := TX6) (N := 24) hx hb hts hin6 hown hE.1 hW mC_M rfl 7 (by decide) (hts (.fieldLink RX6 75 "UnionListModel" "copies" "I") (by decide +kernel)) (fun _ h9 => h9) rfl dX6_addCopy_108 ?_
        refine lv_iconst (v := 1) hx hb dX6_addCopy_111 (by decide) ?_
        refine zc_v (va_runV (As := [.int (m76 7 0), .int 1]) (rest := []) ⟨hx, hb, hml, hown, hts⟩ (cX6_tell_ok l hlt D S0 g m76 (m76 7 0) 1 _ h) (cwV 2 hts gX6_addCopy_X6_tell rfl rfl rfl (by decide +kernel) ⟨Nat.le_of_ble_eq_true rfl, Nat.le_of_ble_eq_true rfl⟩) (zpreV (q := (RX6, TX6, 24)) hE hs hW mC_M rfl) rfl rfl hl.1 rfl (lv_room (Nat.le_of_ble_eq_true rfl)) dX6_addCopy_112 ⟨by show _ ≤ 0; omega, by show _ ≤ 8 * (0); omega⟩) hW (fun m78 H locs h hW => ?_)
        refine W.widen (k := 0) (n := 8 * (0)) (by omega) (by omega) ?_
        refine lv_aload_n hx hb dX6_addCopy_115 rfl (lv_at hl 0 rfl) ?_
        refine lv_dup hx hb dX6_addCopy_116 rfl ?_
        refine zw_get (C := RX6) (T := TX6) (N := 24) hx hb hts hin6 hown hE.1 hW mC_M rfl 7 (by decide) (hts (.fieldLink RX6 75 "UnionListModel" "copies" "I") (by decide +kernel)) (fun _ h9 => h9) rfl dX6_addCopy_117 ?_
        refine lv_iconst (v := 1) hx hb dX6_addCopy_120 (by decide) ?_
        refine lv_iadd hx hb dX6_addCopy_121 ?_
        refine zw_put (C := RX6) (T := TX6) (N := 24) hx hb hts hin6 tyX6 tyX6_ok nmX6 hown hE.1 hW mC_M rfl 7 (by decide) (hts (.fieldLink RX6 75 "UnionListModel" "copies" "I") (by decide +kernel)) (fun _ h9 => h9) rfl rfl rfl (Nat.le_of_ble_eq_true rfl) dX6_addCopy_122 mP_7 (fun H locs hW => ?_)
        obtain ⟨m79, em79⟩ : ∃ y, y = mset m78 7 0 ((m78 7 0) + 1) := ⟨_, rfl⟩
        rw [← em79] at hW
        replace h := h m79 em79
        refine lv_aload_n hx hb dX6_addCopy_125 rfl (lv_at hl 0 rfl) ?_
        refine zw_get (C := RX6) (T := TX6) (N := 24) hx hb hts hin6 hown hE.1 hW mC_M rfl 7 (by decide) (hts (.fieldLink RX6 75 "UnionListModel" "copies" "I") (by decide +kernel)) (fun _ h9 => h9) rfl dX6_addCopy_126 ?_
        refine lv_iconst (v := 1) hx hb dX6_addCopy_129 (by decide) ?_
        refine lv_isub hx hb dX6_addCopy_130 ?_
        refine W.widen (k := 0) (n := 8 * (0)) (by omega) (by omega) ?_
        exact (z_iret hx hb hr hlocks hW h dX6_addCopy_131)
      · replace h := h.2 c_64
        refine lv_iconst (v := (-1)) hx hb dX6_addCopy_44 (by decide) ?_
        refine W.widen (k := 0) (n := 8 * (0)) (by omega) (by omega) ?_
        exact (z_iret hx hb hr hlocks hW h dX6_addCopy_45)

def wX6_mend (m0 : mS) (p1 : Int32) (Q : mS → Prop) : Prop := (wX6_isCopy m0 p1 (fun r1 m2 => ((r1 = 0 → (wX6_holds m2 1 (fun r36 m37 => ((r36 = 0 → (vp_in p1 20 ∧ (∀ m40 : mS, m40 = mset m37 5 p1.toNatClampNeg (-1) → (vp_in p1 20 ∧ (∀ m42 : mS, m42 = mset m40 6 p1.toNatClampNeg 0 → (wX6_tell m42 p1 1 (fun m44 => Q m44))))))) ∧ (¬ r36 = 0 → Q m37))))) ∧ (¬ r1 = 0 → (vp_in p1 20 ∧ (vp_in p1 20 ∧ (((m2 2 p1.toNatClampNeg) = (m2 0 p1.toNatClampNeg) → (vp_in p1 20 ∧ (((m2 6 p1.toNatClampNeg) = 0 → (wX6_holds m2 2 (fun r27 m28 => ((r27 = 0 → (vp_in p1 20 ∧ (∀ m31 : mS, m31 = mset m28 5 p1.toNatClampNeg (-1) → (vp_in p1 20 ∧ (∀ m33 : mS, m33 = mset m31 6 p1.toNatClampNeg 0 → (wX6_tell m33 p1 1 (fun m35 => Q m35))))))) ∧ (¬ r27 = 0 → Q m28))))) ∧ (¬ (m2 6 p1.toNatClampNeg) = 0 → (wX6_holds m2 0 (fun r18 m19 => ((r18 = 0 → (vp_in p1 20 ∧ (∀ m22 : mS, m22 = mset m19 5 p1.toNatClampNeg (-1) → (vp_in p1 20 ∧ (∀ m24 : mS, m24 = mset m22 6 p1.toNatClampNeg 0 → (wX6_tell m24 p1 1 (fun m26 => Q m26))))))) ∧ (¬ r18 = 0 → Q m19)))))))) ∧ (¬ (m2 2 p1.toNatClampNeg) = (m2 0 p1.toNatClampNeg) → (wX6_holds m2 2 (fun r7 m8 => ((r7 = 0 → (vp_in p1 20 ∧ (∀ m11 : mS, m11 = mset m8 5 p1.toNatClampNeg (-1) → (vp_in p1 20 ∧ (∀ m13 : mS, m13 = mset m11 6 p1.toNatClampNeg 0 → (wX6_tell m13 p1 1 (fun m15 => Q m15))))))) ∧ (¬ r7 = 0 → Q m8))))))))))))
theorem hin_X6_mend_6 : ∀ w ∈ u_ws RX6 TX6 24, w ∈ wsX6_mend := by decide +kernel
set_option maxHeartbeats 8000000 in
set_option maxRecDepth 100000 in
theorem cX6_mend_ok (l : Launch) (hlt : l.stackTraces = false) (D : zD) (S0 : Nat) (g : zF) (m0 : mS) (p1 : Int32)  (Q : mS → Prop) (h : wX6_mend m0 p1 Q) : Met l yX6_mend wsX6_mend { frames := 2, cells := 0, slots := 8 * (0), locals := 45 } (zPc D S0 (mR D S0 g m0) [.ref (S0 + 9), .int p1]) (va_Qv Q (zB D S0 (fun u => mR D S0 g u)) (zA S0)) (0) (8 * (0)) (zA S0) := by
  refine zMet (cc := cX6_mend) (maxL := 2) (ret := none) (by decide) rfl (Nat.le_of_ble_eq_true rfl) (fun p e s m args below meth c ls hx hb hr hml hown hts hlocks hnm hs hE hW hl => ?_)
  have hin6 := hin_X6_mend_6
  replace hl : lv_has ls 2 [(0, .ref (S0 + 9)), (1, .int p1)] := hl
  unfold wX6_mend at h
  refine lv_aload_n hx hb dX6_mend_0 rfl (lv_at hl 0 rfl) ?_
  refine lv_aload_n hx hb dX6_mend_1 rfl (lv_at hl 0 rfl) ?_
  refine lv_iload_n hx hb dX6_mend_2 rfl (lv_at hl 1 rfl) ?_
  refine zc_i (va_runV (As := [.int p1]) (rest := [.ref (S0 + 9)]) ⟨hx, hb, hml, hown, hts⟩ (cX6_isCopy_ok l hlt D S0 g m0 p1 _ h) (cwV 1 hts gX6_mend_X6_isCopy rfl rfl rfl (by decide +kernel) ⟨Nat.le_of_ble_eq_true rfl, Nat.le_of_ble_eq_true rfl⟩) (zpreV (q := (RX6, TX6, 24)) hE hs hW mC_M rfl) rfl rfl hl.1 rfl (lv_room (Nat.le_of_ble_eq_true rfl)) dX6_mend_3 ⟨by show _ ≤ 0; omega, by show _ ≤ 8 * (0); omega⟩) hW (fun r1 m2 H locs h hW => ?_)
  obtain ⟨h, hz_r1⟩ := h
  refine W.widen (k := 0) (n := 8 * (0)) (by omega) (by omega) ?_
  refine lv_if_ne (tgt := 13) hx hb dX6_mend_6 (by decide) (fun c_3 => ?_) (fun c_3 => ?_)
  · replace h := h.2 c_3
    refine lv_aload_n hx hb dX6_mend_13 rfl (lv_at hl 0 rfl) ?_
    refine zw_get (C := RX6) (T := TX6) (N := 24) hx hb hts hin6 hown hE.1 hW mC_M rfl 2 (by decide) (hts (.fieldLink RX6 16 "UnionListModel" "place" "[I") (by decide +kernel)) (fun _ h9 => h9) rfl dX6_mend_14 ?_
    refine lv_iload_n hx hb dX6_mend_17 rfl (lv_at hl 1 rfl) ?_
    obtain ⟨hb_4, h⟩ := h
    refine zw_iald hx hb hE.1 hW mC_2 hb_4 dX6_mend_18 ?_
    refine lv_aload_n hx hb dX6_mend_19 rfl (lv_at hl 0 rfl) ?_
    refine zw_get (C := RX6) (T := TX6) (N := 24) hx hb hts hin6 hown hE.1 hW mC_M rfl 0 (by decide) (hts (.fieldLink RX6 7 "UnionListModel" "home" "[I") (by decide +kernel)) (fun _ h9 => h9) rfl dX6_mend_20 ?_
    refine lv_iload_n hx hb dX6_mend_23 rfl (lv_at hl 1 rfl) ?_
    obtain ⟨hb_5, h⟩ := h
    refine zw_iald hx hb hE.1 hW mC_0 hb_5 dX6_mend_24 ?_
    refine lv_icmp_ne (tgt := 37) hx hb dX6_mend_25 (by decide) (fun c_6 => ?_) (fun c_6 => ?_)
    · replace h := h.2 c_6
      refine lv_iconst (v := 2) hx hb dX6_mend_37 (by decide) ?_
      refine lv_goto (tgt := 42) hx hb dX6_mend_38 (by decide) ?_
      refine zc_i (va_runV (As := [.int 2]) (rest := []) ⟨hx, hb, hml, hown, hts⟩ (cX6_holds_ok l hlt D S0 g m2 2 _ h) (cwV 1 hts gX6_mend_X6_holds rfl rfl rfl (by decide +kernel) ⟨Nat.le_of_ble_eq_true rfl, Nat.le_of_ble_eq_true rfl⟩) (zpreV (q := (RX6, TX6, 24)) hE hs hW mC_M rfl) rfl rfl hl.1 rfl (lv_room (Nat.le_of_ble_eq_true rfl)) dX6_mend_42 ⟨by show _ ≤ 0; omega, by show _ ≤ 8 * (0); omega⟩) hW (fun r7 m8 H locs h hW => ?_)
      obtain ⟨h, hz_r7⟩ := h
      refine W.widen (k := 0) (n := 8 * (0)) (by omega) (by omega) ?_
      refine lv_if_ne (tgt := 68) hx hb dX6_mend_45 (by decide) (fun c_9 => ?_) (fun c_9 => ?_)
      · replace h := h.2 c_9
        refine W.widen (k := 0) (n := 8 * (0)) (by omega) (by omega) ?_
        exact (z_vret hx hb hr hlocks hW h dX6_mend_68)
      · replace h := h.1 c_9
        refine lv_aload_n hx hb dX6_mend_48 rfl (lv_at hl 0 rfl) ?_
        refine zw_get (C := RX6) (T := TX6) (N := 24) hx hb hts hin6 hown hE.1 hW mC_M rfl 5 (by decide) (hts (.fieldLink RX6 25 "UnionListModel" "harmed" "[I") (by decide +kernel)) (fun _ h9 => h9) rfl dX6_mend_49 ?_
        refine lv_iload_n hx hb dX6_mend_52 rfl (lv_at hl 1 rfl) ?_
        refine lv_iconst (v := (-1)) hx hb dX6_mend_53 (by decide) ?_
        obtain ⟨hb_10, h⟩ := h
        refine zw_iast hx hb hE.1 hW mC_5 hb_10 dX6_mend_54 mP_5 (fun H locs hW => ?_)
        obtain ⟨m11, em11⟩ : ∃ y, y = mset m8 5 p1.toNatClampNeg (-1) := ⟨_, rfl⟩
        rw [← em11] at hW
        replace h := h m11 em11
        refine lv_aload_n hx hb dX6_mend_55 rfl (lv_at hl 0 rfl) ?_
        refine zw_get (C := RX6) (T := TX6) (N := 24) hx hb hts hin6 hown hE.1 hW mC_M rfl 6 (by decide) (hts (.fieldLink RX6 28 "UnionListModel" "seen" "[I") (by decide +kernel)) (fun _ h9 => h9) rfl dX6_mend_56 ?_
        refine lv_iload_n hx hb dX6_mend_59 rfl (lv_at hl 1 rfl) ?_
        refine lv_iconst (v := 0) hx hb dX6_mend_60 (by decide) ?_
        obtain ⟨hb_12, h⟩ := h
        refine zw_iast hx hb hE.1 hW mC_6 hb_12 dX6_mend_61 mP_6 (fun H locs hW => ?_)
        obtain ⟨m13, em13⟩ : ∃ y, y = mset m11 6 p1.toNatClampNeg 0 := ⟨_, rfl⟩
        rw [← em13] at hW
        replace h := h m13 em13
        refine lv_aload_n hx hb dX6_mend_62 rfl (lv_at hl 0 rfl) ?_
        refine lv_iload_n hx hb dX6_mend_63 rfl (lv_at hl 1 rfl) ?_
        refine lv_iconst (v := 1) hx hb dX6_mend_64 (by decide) ?_
        refine zc_v (va_runV (As := [.int p1, .int 1]) (rest := []) ⟨hx, hb, hml, hown, hts⟩ (cX6_tell_ok l hlt D S0 g m13 p1 1 _ h) (cwV 2 hts gX6_mend_X6_tell rfl rfl rfl (by decide +kernel) ⟨Nat.le_of_ble_eq_true rfl, Nat.le_of_ble_eq_true rfl⟩) (zpreV (q := (RX6, TX6, 24)) hE hs hW mC_M rfl) rfl rfl hl.1 rfl (lv_room (Nat.le_of_ble_eq_true rfl)) dX6_mend_65 ⟨by show _ ≤ 0; omega, by show _ ≤ 8 * (0); omega⟩) hW (fun m15 H locs h hW => ?_)
        refine W.widen (k := 0) (n := 8 * (0)) (by omega) (by omega) ?_
        refine W.widen (k := 0) (n := 8 * (0)) (by omega) (by omega) ?_
        exact (z_vret hx hb hr hlocks hW h dX6_mend_68)
    · replace h := h.1 c_6
      refine lv_aload_n hx hb dX6_mend_28 rfl (lv_at hl 0 rfl) ?_
      refine zw_get (C := RX6) (T := TX6) (N := 24) hx hb hts hin6 hown hE.1 hW mC_M rfl 6 (by decide) (hts (.fieldLink RX6 28 "UnionListModel" "seen" "[I") (by decide +kernel)) (fun _ h9 => h9) rfl dX6_mend_29 ?_
      refine lv_iload_n hx hb dX6_mend_32 rfl (lv_at hl 1 rfl) ?_
      obtain ⟨hb_16, h⟩ := h
      refine zw_iald hx hb hE.1 hW mC_6 hb_16 dX6_mend_33 ?_
      refine lv_if_ne (tgt := 41) hx hb dX6_mend_34 (by decide) (fun c_17 => ?_) (fun c_17 => ?_)
      · replace h := h.2 c_17
        refine lv_iconst (v := 0) hx hb dX6_mend_41 (by decide) ?_
        refine zc_i (va_runV (As := [.int 0]) (rest := []) ⟨hx, hb, hml, hown, hts⟩ (cX6_holds_ok l hlt D S0 g m2 0 _ h) (cwV 1 hts gX6_mend_X6_holds rfl rfl rfl (by decide +kernel) ⟨Nat.le_of_ble_eq_true rfl, Nat.le_of_ble_eq_true rfl⟩) (zpreV (q := (RX6, TX6, 24)) hE hs hW mC_M rfl) rfl rfl hl.1 rfl (lv_room (Nat.le_of_ble_eq_true rfl)) dX6_mend_42 ⟨by show _ ≤ 0; omega, by show _ ≤ 8 * (0); omega⟩) hW (fun r18 m19 H locs h hW => ?_)
        obtain ⟨h, hz_r18⟩ := h
        refine W.widen (k := 0) (n := 8 * (0)) (by omega) (by omega) ?_
        refine lv_if_ne (tgt := 68) hx hb dX6_mend_45 (by decide) (fun c_20 => ?_) (fun c_20 => ?_)
        · replace h := h.2 c_20
          refine W.widen (k := 0) (n := 8 * (0)) (by omega) (by omega) ?_
          exact (z_vret hx hb hr hlocks hW h dX6_mend_68)
        · replace h := h.1 c_20
          refine lv_aload_n hx hb dX6_mend_48 rfl (lv_at hl 0 rfl) ?_
          refine zw_get (C := RX6) (T := TX6) (N := 24) hx hb hts hin6 hown hE.1 hW mC_M rfl 5 (by decide) (hts (.fieldLink RX6 25 "UnionListModel" "harmed" "[I") (by decide +kernel)) (fun _ h9 => h9) rfl dX6_mend_49 ?_
          refine lv_iload_n hx hb dX6_mend_52 rfl (lv_at hl 1 rfl) ?_
          refine lv_iconst (v := (-1)) hx hb dX6_mend_53 (by decide) ?_
          obtain ⟨hb_21, h⟩ := h
          refine zw_iast hx hb hE.1 hW mC_5 hb_21 dX6_mend_54 mP_5 (fun H locs hW => ?_)
          obtain ⟨m22, em22⟩ : ∃ y, y = mset m19 5 p1.toNatClampNeg (-1) := ⟨_, rfl⟩
          rw [← em22] at hW
          replace h := h m22 em22
          refine lv_aload_n hx hb dX6_mend_55 rfl (lv_at hl 0 rfl) ?_
          refine zw_get (C := RX6) (T := TX6) (N := 24) hx hb hts hin6 hown hE.1 hW mC_M rfl 6 (by decide) (hts (.fieldLink RX6 28 "UnionListModel" "seen" "[I") (by decide +kernel)) (fun _ h9 => h9) rfl dX6_mend_56 ?_
          refine lv_iload_n hx hb dX6_mend_59 rfl (lv_at hl 1 rfl) ?_
          refine lv_iconst (v := 0) hx hb dX6_mend_60 (by decide) ?_
          obtain ⟨hb_23, h⟩ := h
          refine zw_iast hx hb hE.1 hW mC_6 hb_23 dX6_mend_61 mP_6 (fun H locs hW => ?_)
          obtain ⟨m24, em24⟩ : ∃ y, y = mset m22 6 p1.toNatClampNeg 0 := ⟨_, rfl⟩
          rw [← em24] at hW
          replace h := h m24 em24
          refine lv_aload_n hx hb dX6_mend_62 rfl (lv_at hl 0 rfl) ?_
          refine lv_iload_n hx hb dX6_mend_63 rfl (lv_at hl 1 rfl) ?_
          refine lv_iconst (v := 1) hx hb dX6_mend_64 (by decide) ?_
          refine zc_v (va_runV (As := [.int p1, .int 1]) (rest := []) ⟨hx, hb, hml, hown, hts⟩ (cX6_tell_ok l hlt D S0 g m24 p1 1 _ h) (cwV 2 hts gX6_mend_X6_tell rfl rfl rfl (by decide +kernel) ⟨Nat.le_of_ble_eq_true rfl, Nat.le_of_ble_eq_true rfl⟩) (zpreV (q := (RX6, TX6, 24)) hE hs hW mC_M rfl) rfl rfl hl.1 rfl (lv_room (Nat.le_of_ble_eq_true rfl)) dX6_mend_65 ⟨by show _ ≤ 0; omega, by show _ ≤ 8 * (0); omega⟩) hW (fun m26 H locs h hW => ?_)
          refine W.widen (k := 0) (n := 8 * (0)) (by omega) (by omega) ?_
          refine W.widen (k := 0) (n := 8 * (0)) (by omega) (by omega) ?_
          exact (z_vret hx hb hr hlocks hW h dX6_mend_68)
      · replace h := h.1 c_17
        refine lv_iconst (v := 2) hx hb dX6_mend_37 (by decide) ?_
        refine lv_goto (tgt := 42) hx hb dX6_mend_38 (by decide) ?_
        refine zc_i (va_runV (As := [.int 2]) (rest := []) ⟨hx, hb, hml, hown, hts⟩ (cX6_holds_ok l hlt D S0 g m2 2 _ h) (cwV 1 hts gX6_mend_X6_holds rfl rfl rfl (by decide +kernel) ⟨Nat.le_of_ble_eq_true rfl, Nat.le_of_ble_eq_true rfl⟩) (zpreV (q := (RX6, TX6, 24)) hE hs hW mC_M rfl) rfl rfl hl.1 rfl (lv_room (Nat.le_of_ble_eq_true rfl)) dX6_mend_42 ⟨by show _ ≤ 0; omega, by show _ ≤ 8 * (0); omega⟩) hW (fun r27 m28 H locs h hW => ?_)
        obtain ⟨h, hz_r27⟩ := h
        refine W.widen (k := 0) (n := 8 * (0)) (by omega) (by omega) ?_
        refine lv_if_ne (tgt := 68) hx hb dX6_mend_45 (by decide) (fun c_29 => ?_) (fun c_29 => ?_)
        · replace h := h.2 c_29
          refine W.widen (k := 0) (n := 8 * (0)) (by omega) (by omega) ?_
          exact (z_vret hx hb hr hlocks hW h dX6_mend_68)
        · replace h := h.1 c_29
          refine lv_aload_n hx hb dX6_mend_48 rfl (lv_at hl 0 rfl) ?_
          refine zw_get (C := RX6) (T := TX6) (N := 24) hx hb hts hin6 hown hE.1 hW mC_M rfl 5 (by decide) (hts (.fieldLink RX6 25 "UnionListModel" "harmed" "[I") (by decide +kernel)) (fun _ h9 => h9) rfl dX6_mend_49 ?_
          refine lv_iload_n hx hb dX6_mend_52 rfl (lv_at hl 1 rfl) ?_
          refine lv_iconst (v := (-1)) hx hb dX6_mend_53 (by decide) ?_
          obtain ⟨hb_30, h⟩ := h
          refine zw_iast hx hb hE.1 hW mC_5 hb_30 dX6_mend_54 mP_5 (fun H locs hW => ?_)
          obtain ⟨m31, em31⟩ : ∃ y, y = mset m28 5 p1.toNatClampNeg (-1) := ⟨_, rfl⟩
          rw [← em31] at hW
          replace h := h m31 em31
          refine lv_aload_n hx hb dX6_mend_55 rfl (lv_at hl 0 rfl) ?_
          refine zw_get (C := RX6) (T := TX6) (N := 24) hx hb hts hin6 hown hE.1 hW mC_M rfl 6 (by decide) (hts (.fieldLink RX6 28 "UnionListModel" "seen" "[I") (by decide +kernel)) (fun _ h9 => h9) rfl dX6_mend_56 ?_
          refine lv_iload_n hx hb dX6_mend_59 rfl (lv_at hl 1 rfl) ?_
          refine lv_iconst (v := 0) hx hb dX6_mend_60 (by decide) ?_
          obtain ⟨hb_32, h⟩ := h
          refine zw_iast hx hb hE.1 hW mC_6 hb_32 dX6_mend_61 mP_6 (fun H locs hW => ?_)
          obtain ⟨m33, em33⟩ : ∃ y, y = mset m31 6 p1.toNatClampNeg 0 := ⟨_, rfl⟩
          rw [← em33] at hW
          replace h := h m33 em33
          refine lv_aload_n hx hb dX6_mend_62 rfl (lv_at hl 0 rfl) ?_
          refine lv_iload_n hx hb dX6_mend_63 rfl (lv_at hl 1 rfl) ?_
          refine lv_iconst (v := 1) hx hb dX6_mend_64 (by decide) ?_
          refine zc_v (va_runV (As := [.int p1, .int 1]) (rest := []) ⟨hx, hb, hml, hown, hts⟩ (cX6_tell_ok l hlt D S0 g m33 p1 1 _ h) (cwV 2 hts gX6_mend_X6_tell rfl rfl rfl (by decide +kernel) ⟨Nat.le_of_ble_eq_true rfl, Nat.le_of_ble_eq_true rfl⟩) (zpreV (q := (RX6, TX6, 24)) hE hs hW mC_M rfl) rfl rfl hl.1 rfl (lv_room (Nat.le_of_ble_eq_true rfl)) dX6_mend_65 ⟨by show _ ≤ 0; omega, by show _ ≤ 8 * (0); omega⟩) hW (fun m35 H locs h hW => ?_)
          refine W.widen (k := 0) (n := 8 * (0)) (by omega) (by omega) ?_
          refine W.widen (k := 0) (n := 8 * (0)) (by omega) (by omega) ?_
          exact (z_vret hx hb hr hlocks hW h dX6_mend_68)
  · replace h := h.1 c_3
    refine lv_iconst (v := 1) hx hb dX6_mend_9 (by decide) ?_
    refine lv_goto (tgt := 42) hx hb dX6_mend_10 (by decide) ?_
    refine zc_i (va_runV (As := [.int 1]) (rest := []) ⟨hx, hb, hml, hown, hts⟩ (cX6_holds_ok l hlt D S0 g m2 1 _ h) (cwV 1 hts gX6_mend_X6_holds rfl rfl rfl (by decide +kernel) ⟨Nat.le_of_ble_eq_true rfl, Nat.le_of_ble_eq_true rfl⟩) (zpreV (q := (RX6, TX6, 24)) hE hs hW mC_M rfl) rfl rfl hl.1 rfl (lv_room (Nat.le_of_ble_eq_true rfl)) dX6_mend_42 ⟨by show _ ≤ 0; omega, by show _ ≤ 8 * (0); omega⟩) hW (fun r36 m37 H locs h hW => ?_)
    obtain ⟨h, hz_r36⟩ := h
    refine W.widen (k := 0) (n := 8 * (0)) (by omega) (by omega) ?_
    refine lv_if_ne (tgt := 68) hx hb dX6_mend_45 (by decide) (fun c_38 => ?_) (fun c_38 => ?_)
    · replace h := h.2 c_38
      refine W.widen (k := 0) (n := 8 * (0)) (by omega) (by omega) ?_
      exact (z_vret hx hb hr hlocks hW h dX6_mend_68)
    · replace h := h.1 c_38
      refine lv_aload_n hx hb dX6_mend_48 rfl (lv_at hl 0 rfl) ?_
      refine zw_get (C := RX6) (T := TX6) (N := 24) hx hb hts hin6 hown hE.1 hW mC_M rfl 5 (by decide) (hts (.fieldLink RX6 25 "UnionListModel" "harmed" "[I") (by decide +kernel)) (fun _ h9 => h9) rfl dX6_mend_49 ?_
      refine lv_iload_n hx hb dX6_mend_52 rfl (lv_at hl 1 rfl) ?_
      refine lv_iconst (v := (-1)) hx hb dX6_mend_53 (by decide) ?_
      obtain ⟨hb_39, h⟩ := h
      refine zw_iast hx hb hE.1 hW mC_5 hb_39 dX6_mend_54 mP_5 (fun H locs hW => ?_)
      obtain ⟨m40, em40⟩ : ∃ y, y = mset m37 5 p1.toNatClampNeg (-1) := ⟨_, rfl⟩
      rw [← em40] at hW
      replace h := h m40 em40
      refine lv_aload_n hx hb dX6_mend_55 rfl (lv_at hl 0 rfl) ?_
      refine zw_get (C := RX6) (T := TX6) (N := 24) hx hb hts hin6 hown hE.1 hW mC_M rfl 6 (by decide) (hts (.fieldLink RX6 28 "UnionListModel" "seen" "[I") (by decide +kernel)) (fun _ h9 => h9) rfl dX6_mend_56 ?_
      refine lv_iload_n hx hb dX6_mend_59 rfl (lv_at hl 1 rfl) ?_
      refine lv_iconst (v := 0) hx hb dX6_mend_60 (by decide) ?_
      obtain ⟨hb_41, h⟩ := h
      refine zw_iast hx hb hE.1 hW mC_6 hb_41 dX6_mend_61 mP_6 (fun H locs hW => ?_)
      obtain ⟨m42, em42⟩ : ∃ y, y = mset m40 6 p1.toNatClampNeg 0 := ⟨_, rfl⟩
      rw [← em42] at hW
      replace h := h m42 em42
      refine lv_aload_n hx hb dX6_mend_62 rfl (lv_at hl 0 rfl) ?_
      refine lv_iload_n hx hb dX6_mend_63 rfl (lv_at hl 1 rfl) ?_
      refine lv_iconst (v := 1) hx hb dX6_mend_64 (by decide) ?_
      refine zc_v (va_runV (As := [.int p1, .int 1]) (rest := []) ⟨hx, hb, hml, hown, hts⟩ (cX6_tell_ok l hlt D S0 g m42 p1 1 _ h) (cwV 2 hts gX6_mend_X6_tell rfl rfl rfl (by decide +kernel) ⟨Nat.le_of_ble_eq_true rfl, Nat.le_of_ble_eq_true rfl⟩) (zpreV (q := (RX6, TX6, 24)) hE hs hW mC_M rfl) rfl rfl hl.1 rfl (lv_room (Nat.le_of_ble_eq_true rfl)) dX6_mend_65 ⟨by show _ ≤ 0; omega, by show _ ≤ 8 * (0); omega⟩) hW (fun m44 H locs h hW => ?_)
      refine W.widen (k := 0) (n := 8 * (0)) (by omega) (by omega) ?_
      refine W.widen (k := 0) (n := 8 * (0)) (by omega) (by omega) ?_
      exact (z_vret hx hb hr hlocks hW h dX6_mend_68)

def wX6_ask_l4 (p1 : Int32) (Q : mS → Prop) : Nat → Int32 → Int32 → mS → Prop
  | 0, _, _, _ => False
  | f4 + 1, x1, x2, m3 => (((m3 7 0) ≤ x1 → (vp_in p1 40 ∧ (∀ m7 : mS, m7 = mset m3 11 p1.toNatClampNeg x2 → ((0 ≤ x2 → (vp_in p1 40 ∧ (∀ m10 : mS, m10 = mset m7 10 p1.toNatClampNeg 0 → ((x2 < 0 → Q m10) ∧ (¬ x2 < 0 → (vp_in p1 40 ∧ (vp_in x2 20 ∧ (vp_in p1 40 ∧ (∀ m15 : mS, m15 = mset m10 13 p1.toNatClampNeg ((m10 13 p1.toNatClampNeg) ||| (1 <<< ((m10 0 x2.toNatClampNeg) &&& 31))) → (vp_in x2 20 ∧ (vp_in p1 40 ∧ (wX6_way m15 (m15 0 x2.toNatClampNeg) (m15 8 p1.toNatClampNeg) (fun r18 m19 => (wX6_send m19 2 p1 r18 (fun r20 m21 => Q m21))))))))))))))) ∧ (¬ 0 ≤ x2 → (vp_in p1 40 ∧ (∀ m23 : mS, m23 = mset m7 10 p1.toNatClampNeg 5 → ((x2 < 0 → Q m23) ∧ (¬ x2 < 0 → (vp_in p1 40 ∧ (vp_in x2 20 ∧ (vp_in p1 40 ∧ (∀ m28 : mS, m28 = mset m23 13 p1.toNatClampNeg ((m23 13 p1.toNatClampNeg) ||| (1 <<< ((m23 0 x2.toNatClampNeg) &&& 31))) → (vp_in x2 20 ∧ (vp_in p1 40 ∧ (wX6_way m28 (m28 0 x2.toNatClampNeg) (m28 8 p1.toNatClampNeg) (fun r31 m32 => (wX6_send m32 2 p1 r31 (fun r33 m34 => Q m34))))))))))))))))))) ∧ (¬ (m3 7 0) ≤ x1 → (vp_in x1 20 ∧ (vp_in p1 40 ∧ (((m3 1 x1.toNatClampNeg) = (m3 9 p1.toNatClampNeg) → (vp_in x1 20 ∧ (((m3 4 x1.toNatClampNeg) = 1 → (vp_in x1 20 ∧ (vp_in p1 40 ∧ (((m3 0 x1.toNatClampNeg) = (m3 8 p1.toNatClampNeg) → (wX6_ask_l4 p1 Q f4 (x1 + 1) x2 m3)) ∧ (¬ (m3 0 x1.toNatClampNeg) = (m3 8 p1.toNatClampNeg) → (vp_in p1 40 ∧ (vp_in x1 20 ∧ (((((m3 13 p1.toNatClampNeg) >>> ((m3 0 x1.toNatClampNeg) &&& 31)) &&& 1) = 0 → ((x2 < 0 → (wX6_ask_l4 p1 Q f4 (x1 + 1) x1 m3)) ∧ (¬ x2 < 0 → (vp_in x1 20 ∧ (vp_in p1 40 ∧ (wX6_way m3 (m3 0 x1.toNatClampNeg) (m3 8 p1.toNatClampNeg) (fun r49 m50 => (vp_in x2 20 ∧ (vp_in p1 40 ∧ (wX6_way m50 (m50 0 x2.toNatClampNeg) (m50 8 p1.toNatClampNeg) (fun r53 m54 => ((r53 ≤ r49 → (wX6_ask_l4 p1 Q f4 (x1 + 1) x2 m54)) ∧ (¬ r53 ≤ r49 → (wX6_ask_l4 p1 Q f4 (x1 + 1) x1 m54)))))))))))))) ∧ (¬ (((m3 13 p1.toNatClampNeg) >>> ((m3 0 x1.toNatClampNeg) &&& 31)) &&& 1) = 0 → (wX6_ask_l4 p1 Q f4 (x1 + 1) x2 m3)))))))))) ∧ (¬ (m3 4 x1.toNatClampNeg) = 1 → (wX6_ask_l4 p1 Q f4 (x1 + 1) x2 m3))))) ∧ (¬ (m3 1 x1.toNatClampNeg) = (m3 9 p1.toNatClampNeg) → (wX6_ask_l4 p1 Q f4 (x1 + 1) x2 m3)))))))
def wX6_ask (m0 : mS) (p1 : Int32) (Q : mS → Prop) : Prop := (∃ f56 : Nat, wX6_ask_l4 p1 Q f56 0 (-1) m0)
theorem hin_X6_ask_6 : ∀ w ∈ u_ws RX6 TX6 24, w ∈ wsX6_ask := by decide +kernel
set_option maxHeartbeats 8000000 in
set_option maxRecDepth 100000 in
theorem cX6_ask_ok (l : Launch) (hlt : l.stackTraces = false) (D : zD) (S0 : Nat) (g : zF) (m0 : mS) (p1 : Int32)  (Q : mS → Prop) (h : wX6_ask m0 p1 Q) : Met l yX6_ask wsX6_ask { frames := 1, cells := 0, slots := 8 * (0), locals := 23 } (zPc D S0 (mR D S0 g m0) [.ref (S0 + 9), .int p1]) (va_Qv Q (zB D S0 (fun u => mR D S0 g u)) (zA S0)) (0) (8 * (0)) (zA S0) := by
  refine zMet (cc := cX6_ask) (maxL := 5) (ret := none) (by decide) rfl (Nat.le_of_ble_eq_true rfl) (fun p e s m args below meth c ls hx hb hr hml hown hts hlocks hnm hs hE hW hl => ?_)
  have hin6 := hin_X6_ask_6
  replace hl : lv_has ls 5 [(0, .ref (S0 + 9)), (1, .int p1)] := hl
  unfold wX6_ask at h
  refine lv_iconst (v := (-1)) hx hb dX6_ask_0 (by decide) ?_
  refine lv_istore_n (lv' := [(2, .int (-1)), (0, .ref (S0 + 9)), (1, .int p1)]) hx hb dX6_ask_1 rfl hl (by decide) rfl (fun ls hl => ?_)
  refine lv_iconst (v := 0) hx hb dX6_ask_2 (by decide) ?_
  refine lv_istore_n (lv' := [(3, .int 0), (2, .int (-1)), (0, .ref (S0 + 9)), (1, .int p1)]) hx hb dX6_ask_3 rfl hl (by decide) rfl (fun ls hl => ?_)
  have lp4 : ∀ (f4 : Nat) (x1 : Int32) (x2 : Int32) (m3 : mS) (H : Heap) (locs : List Loc) (ls : Array Slot), wX6_ask_l4 p1 Q f4 x1 x2 m3 → zW D S0 (mR D S0 g m3) s.heap H locs → lv_has ls 5 [(3, .int x1), (2, .int x2), (0, .ref (S0 + 9)), (1, .int p1)] → W p l e { frames := 1, cells := 0, slots := 8 * (0), locals := 23 } s m args below meth c H locs (0) (8 * (0)) (MQ below (va_Qv Q (zB D S0 (fun u => mR D S0 g u)) (zA S0)) args s (0) (8 * (0)) (zA S0)) (F0 m 4 ls []) := by
    intro f4
    induction f4 with
    | zero => intro x1 x2 m3 H locs ls h; exact h.elim
    | succ f4 ih4 =>
      intro x1 x2 m3 H locs ls h  hW hl
      unfold wX6_ask_l4 at h
      refine lv_iload_n hx hb dX6_ask_4 rfl (lv_at hl 0 rfl) ?_
      refine lv_aload_n hx hb dX6_ask_5 rfl (lv_at hl 2 rfl) ?_
      refine zw_get (C := RX6) (T := TX6) (N := 24) hx hb hts hin6 hown hE.1 hW mC_M rfl 7 (by decide) (hts (.fieldLink RX6 75 "UnionListModel" "copies" "I") (by decide +kernel)) (fun _ h9 => h9) rfl dX6_ask_6 ?_
      refine lv_icmp_ge (tgt := 129) hx hb dX6_ask_9 (by decide) (fun c_5 => ?_) (fun c_5 => ?_)
      · replace h := h.1 c_5
        refine lv_aload_n hx hb dX6_ask_129 rfl (lv_at hl 2 rfl) ?_
        refine zw_get (C := RX6) (T := TX6) (N := 24) hx hb hts hin6 hown hE.1 hW mC_M rfl 11 (by decide) (hts (.fieldLink RX6 40 "UnionListModel" "loaned" "[I") (by decide +kernel)) (fun _ h9 => h9) rfl dX6_ask_130 ?_
        refine lv_iload_n hx hb dX6_ask_133 rfl (lv_at hl 3 rfl) ?_
        refine lv_iload_n hx hb dX6_ask_134 rfl (lv_at hl 1 rfl) ?_
        obtain ⟨hb_6, h⟩ := h
        refine zw_iast hx hb hE.1 hW mC_11 hb_6 dX6_ask_135 mP_11 (fun H locs hW => ?_)
        obtain ⟨m7, em7⟩ : ∃ y, y = mset m3 11 p1.toNatClampNeg x2 := ⟨_, rfl⟩
        rw [← em7] at hW
        replace h := h m7 em7
        refine lv_aload_n hx hb dX6_ask_136 rfl (lv_at hl 2 rfl) ?_
        refine zw_get (C := RX6) (T := TX6) (N := 24) hx hb hts hin6 hown hE.1 hW mC_M rfl 10 (by decide) (hts (.fieldLink RX6 37 "UnionListModel" "stage" "[I") (by decide +kernel)) (fun _ h9 => h9) rfl dX6_ask_137 ?_
        refine lv_iload_n hx hb dX6_ask_140 rfl (lv_at hl 3 rfl) ?_
        refine lv_iload_n hx hb dX6_ask_141 rfl (lv_at hl 1 rfl) ?_
        refine lv_if_ge (tgt := 149) hx hb dX6_ask_142 (by decide) (fun c_8 => ?_) (fun c_8 => ?_)
        · replace h := h.1 c_8
          refine lv_iconst (v := 0) hx hb dX6_ask_149 (by decide) ?_
          obtain ⟨hb_9, h⟩ := h
          refine zw_iast hx hb hE.1 hW mC_10 hb_9 dX6_ask_150 mP_10 (fun H locs hW => ?_)
          obtain ⟨m10, em10⟩ : ∃ y, y = mset m7 10 p1.toNatClampNeg 0 := ⟨_, rfl⟩
          rw [← em10] at hW
          replace h := h m10 em10
          refine lv_iload_n hx hb dX6_ask_151 rfl (lv_at hl 1 rfl) ?_
          refine lv_if_lt (tgt := 195) hx hb dX6_ask_152 (by decide) (fun c_11 => ?_) (fun c_11 => ?_)
          · replace h := h.1 c_11
            refine W.widen (k := 0) (n := 8 * (0)) (by omega) (by omega) ?_
            exact (z_vret hx hb hr hlocks hW h dX6_ask_195)
          · replace h := h.2 c_11
            refine lv_aload_n hx hb dX6_ask_155 rfl (lv_at hl 2 rfl) ?_
            refine zw_get (C := RX6) (T := TX6) (N := 24) hx hb hts hin6 hown hE.1 hW mC_M rfl 13 (by decide) (hts (.fieldLink RX6 46 "UnionListModel" "asked" "[I") (by decide +kernel)) (fun _ h9 => h9) rfl dX6_ask_156 ?_
            refine lv_iload_n hx hb dX6_ask_159 rfl (lv_at hl 3 rfl) ?_
            refine lv_dup2_11 hx hb dX6_ask_160 rfl rfl ?_
            obtain ⟨hb_12, h⟩ := h
            refine zw_iald hx hb hE.1 hW mC_13 hb_12 dX6_ask_161 ?_
            refine lv_iconst (v := 1) hx hb dX6_ask_162 (by decide) ?_
            refine lv_aload_n hx hb dX6_ask_163 rfl (lv_at hl 2 rfl) ?_
            refine zw_get (C := RX6) (T := TX6) (N := 24) hx hb hts hin6 hown hE.1 hW mC_M rfl 0 (by decide) (hts (.fieldLink RX6 7 "UnionListModel" "home" "[I") (by decide +kernel)) (fun _ h9 => h9) rfl dX6_ask_164 ?_
            refine lv_iload_n hx hb dX6_ask_167 rfl (lv_at hl 1 rfl) ?_
            obtain ⟨hb_13, h⟩ := h
            refine zw_iald hx hb hE.1 hW mC_0 hb_13 dX6_ask_168 ?_
            refine lv_ishl hx hb dX6_ask_169 ?_
            refine lv_ior hx hb dX6_ask_170 ?_
            obtain ⟨hb_14, h⟩ := h
            refine zw_iast hx hb hE.1 hW mC_13 hb_14 dX6_ask_171 mP_13 (fun H locs hW => ?_)
            obtain ⟨m15, em15⟩ : ∃ y, y = mset m10 13 p1.toNatClampNeg ((m10 13 p1.toNatClampNeg) ||| (1 <<< ((m10 0 x2.toNatClampNeg) &&& 31))) := ⟨_, rfl⟩
            rw [← em15] at hW
            replace h := h m15 em15
            refine lv_aload_n hx hb dX6_ask_172 rfl (lv_at hl 2 rfl) ?_
            refine lv_iconst (v := 2) hx hb dX6_ask_173 (by decide) ?_
            refine lv_iload_n hx hb dX6_ask_174 rfl (lv_at hl 3 rfl) ?_
            refine lv_aload_n hx hb dX6_ask_175 rfl (lv_at hl 2 rfl) ?_
            refine lv_aload_n hx hb dX6_ask_176 rfl (lv_at hl 2 rfl) ?_
            refine zw_get (C := RX6) (T := TX6) (N := 24) hx hb hts hin6 hown hE.1 hW mC_M rfl 0 (by decide) (hts (.fieldLink RX6 7 "UnionListModel" "home" "[I") (by decide +kernel)) (fun _ h9 => h9) rfl dX6_ask_177 ?_
            refine lv_iload_n hx hb dX6_ask_180 rfl (lv_at hl 1 rfl) ?_
            obtain ⟨hb_16, h⟩ := h
            refine zw_iald hx hb hE.1 hW mC_0 hb_16 dX6_ask_181 ?_
            refine lv_aload_n hx hb dX6_ask_182 rfl (lv_at hl 2 rfl) ?_
            refine zw_get (C := RX6) (T := TX6) (N := 24) hx hb hts hin6 hown hE.1 hW mC_M rfl 8 (by decide) (hts (.fieldLink RX6 31 "UnionListModel" "whose" "[I") (by decide +kernel)) (fun _ h9 => h9) rfl dX6_ask_183 ?_
            refine lv_iload_n hx hb dX6_ask_186 rfl (lv_at hl 3 rfl) ?_
            obtain ⟨hb_17, h⟩ := h
            refine zw_iald hx hb hE.1 hW mC_8 hb_17 dX6_ask_187 ?_
            refine zc_i (va_runV (As := [.int (m15 0 x2.toNatClampNeg), .int (m15 8 p1.toNatClampNeg)]) (rest := [.int p1, .int 2, .ref (S0 + 9)]) ⟨hx, hb, hml, hown, hts⟩ (cX6_way_ok l hlt D S0 g m15 (m15 0 x2.toNatClampNeg) (m15 8 p1.toNatClampNeg) _ h) (cwV 2 hts gX6_ask_X6_way rfl rfl rfl (by decide +kernel) ⟨Nat.le_of_ble_eq_true rfl, Nat.le_of_ble_eq_true rfl⟩) (zpreV (q := (RX6, TX6, 24)) hE hs hW mC_M rfl) rfl rfl hl.1 rfl (lv_room (Nat.le_of_ble_eq_true rfl)) dX6_ask_188 ⟨by show _ ≤ 0; omega, by show _ ≤ 8 * (0); omega⟩) hW (fun r18 m19 H locs h hW => ?_)
            refine W.widen (k := 0) (n := 8 * (0)) (by omega) (by omega) ?_
            refine zc_i (va_runV (As := [.int 2, .int p1, .int r18]) (rest := []) ⟨hx, hb, hml, hown, hts⟩ (cX6_send_ok l hlt D S0 g m19 2 p1 r18 _ h) (cwV 3 hts gX6_ask_X6_send rfl rfl rfl (by decide +kernel) ⟨Nat.le_of_ble_eq_true rfl, Nat.le_of_ble_eq_true rfl⟩) (zpreV (q := (RX6, TX6, 24)) hE hs hW mC_M rfl) rfl rfl hl.1 rfl (lv_room (Nat.le_of_ble_eq_true rfl)) dX6_ask_191 ⟨by show _ ≤ 0; omega, by show _ ≤ 8 * (0); omega⟩) hW (fun r20 m21 H locs h hW => ?_)
            refine W.widen (k := 0) (n := 8 * (0)) (by omega) (by omega) ?_
            refine lv_pop hx hb dX6_ask_194 rfl ?_
            refine W.widen (k := 0) (n := 8 * (0)) (by omega) (by omega) ?_
            exact (z_vret hx hb hr hlocks hW h dX6_ask_195)
        · replace h := h.2 c_8
          refine lv_iconst (v := 5) hx hb dX6_ask_145 (by decide) ?_
          refine lv_goto (tgt := 150) hx hb dX6_ask_146 (by decide) ?_
          obtain ⟨hb_22, h⟩ := h
          refine zw_iast hx hb hE.1 hW mC_10 hb_22 dX6_ask_150 mP_10 (fun H locs hW => ?_)
          obtain ⟨m23, em23⟩ : ∃ y, y = mset m7 10 p1.toNatClampNeg 5 := ⟨_, rfl⟩
          rw [← em23] at hW
          replace h := h m23 em23
          refine lv_iload_n hx hb dX6_ask_151 rfl (lv_at hl 1 rfl) ?_
          refine lv_if_lt (tgt := 195) hx hb dX6_ask_152 (by decide) (fun c_24 => ?_) (fun c_24 => ?_)
          · replace h := h.1 c_24
            refine W.widen (k := 0) (n := 8 * (0)) (by omega) (by omega) ?_
            exact (z_vret hx hb hr hlocks hW h dX6_ask_195)
          · replace h := h.2 c_24
            refine lv_aload_n hx hb dX6_ask_155 rfl (lv_at hl 2 rfl) ?_
            refine zw_get (C := RX6) (T := TX6) (N := 24) hx hb hts hin6 hown hE.1 hW mC_M rfl 13 (by decide) (hts (.fieldLink RX6 46 "UnionListModel" "asked" "[I") (by decide +kernel)) (fun _ h9 => h9) rfl dX6_ask_156 ?_
            refine lv_iload_n hx hb dX6_ask_159 rfl (lv_at hl 3 rfl) ?_
            refine lv_dup2_11 hx hb dX6_ask_160 rfl rfl ?_
            obtain ⟨hb_25, h⟩ := h
            refine zw_iald hx hb hE.1 hW mC_13 hb_25 dX6_ask_161 ?_
            refine lv_iconst (v := 1) hx hb dX6_ask_162 (by decide) ?_
            refine lv_aload_n hx hb dX6_ask_163 rfl (lv_at hl 2 rfl) ?_
            refine zw_get (C := RX6) (T := TX6) (N := 24) hx hb hts hin6 hown hE.1 hW mC_M rfl 0 (by decide) (hts (.fieldLink RX6 7 "UnionListModel" "home" "[I") (by decide +kernel)) (fun _ h9 => h9) rfl dX6_ask_164 ?_
            refine lv_iload_n hx hb dX6_ask_167 rfl (lv_at hl 1 rfl) ?_
            obtain ⟨hb_26, h⟩ := h
            refine zw_iald hx hb hE.1 hW mC_0 hb_26 dX6_ask_168 ?_
            refine lv_ishl hx hb dX6_ask_169 ?_
            refine lv_ior hx hb dX6_ask_170 ?_
            obtain ⟨hb_27, h⟩ := h
            refine zw_iast hx hb hE.1 hW mC_13 hb_27 dX6_ask_171 mP_13 (fun H locs hW => ?_)
            obtain ⟨m28, em28⟩ : ∃ y, y = mset m23 13 p1.toNatClampNeg ((m23 13 p1.toNatClampNeg) ||| (1 <<< ((m23 0 x2.toNatClampNeg) &&& 31))) := ⟨_, rfl⟩
            rw [← em28] at hW
            replace h := h m28 em28
            refine lv_aload_n hx hb dX6_ask_172 rfl (lv_at hl 2 rfl) ?_
            refine lv_iconst (v := 2) hx hb dX6_ask_173 (by decide) ?_
            refine lv_iload_n hx hb dX6_ask_174 rfl (lv_at hl 3 rfl) ?_
            refine lv_aload_n hx hb dX6_ask_175 rfl (lv_at hl 2 rfl) ?_
            refine lv_aload_n hx hb dX6_ask_176 rfl (lv_at hl 2 rfl) ?_
            refine zw_get (C := RX6) (T := TX6) (N := 24) hx hb hts hin6 hown hE.1 hW mC_M rfl 0 (by decide) (hts (.fieldLink RX6 7 "UnionListModel" "home" "[I") (by decide +kernel)) (fun _ h9 => h9) rfl dX6_ask_177 ?_
            refine lv_iload_n hx hb dX6_ask_180 rfl (lv_at hl 1 rfl) ?_
            obtain ⟨hb_29, h⟩ := h
            refine zw_iald hx hb hE.1 hW mC_0 hb_29 dX6_ask_181 ?_
            refine lv_aload_n hx hb dX6_ask_182 rfl (lv_at hl 2 rfl) ?_
            refine zw_get (C := RX6) (T := TX6) (N := 24) hx hb hts hin6 hown hE.1 hW mC_M rfl 8 (by decide) (hts (.fieldLink RX6 31 "UnionListModel" "whose" "[I") (by decide +kernel)) (fun _ h9 => h9) rfl dX6_ask_183 ?_
            refine lv_iload_n hx hb dX6_ask_186 rfl (lv_at hl 3 rfl) ?_
            obtain ⟨hb_30, h⟩ := h
            refine zw_iald hx hb hE.1 hW mC_8 hb_30 dX6_ask_187 ?_
            refine zc_i (va_runV (As := [.int (m28 0 x2.toNatClampNeg), .int (m28 8 p1.toNatClampNeg)]) (rest := [.int p1, .int 2, .ref (S0 + 9)]) ⟨hx, hb, hml, hown, hts⟩ (cX6_way_ok l hlt D S0 g m28 (m28 0 x2.toNatClampNeg) (m28 8 p1.toNatClampNeg) _ h) (cwV 2 hts gX6_ask_X6_way rfl rfl rfl (by decide +kernel) ⟨Nat.le_of_ble_eq_true rfl, Nat.le_of_ble_eq_true rfl⟩) (zpreV (q := (RX6, TX6, 24)) hE hs hW mC_M rfl) rfl rfl hl.1 rfl (lv_room (Nat.le_of_ble_eq_true rfl)) dX6_ask_188 ⟨by show _ ≤ 0; omega, by show _ ≤ 8 * (0); omega⟩) hW (fun r31 m32 H locs h hW => ?_)
            refine W.widen (k := 0) (n := 8 * (0)) (by omega) (by omega) ?_
            refine zc_i (va_runV (As := [.int 2, .int p1, .int r31]) (rest := []) ⟨hx, hb, hml, hown, hts⟩ (cX6_send_ok l hlt D S0 g m32 2 p1 r31 _ h) (cwV 3 hts gX6_ask_X6_send rfl rfl rfl (by decide +kernel) ⟨Nat.le_of_ble_eq_true rfl, Nat.le_of_ble_eq_true rfl⟩) (zpreV (q := (RX6, TX6, 24)) hE hs hW mC_M rfl) rfl rfl hl.1 rfl (lv_room (Nat.le_of_ble_eq_true rfl)) dX6_ask_191 ⟨by show _ ≤ 0; omega, by show _ ≤ 8 * (0); omega⟩) hW (fun r33 m34 H locs h hW => ?_)
            refine W.widen (k := 0) (n := 8 * (0)) (by omega) (by omega) ?_
            refine lv_pop hx hb dX6_ask_194 rfl ?_
            refine W.widen (k := 0) (n := 8 * (0)) (by omega) (by omega) ?_
            exact (z_vret hx hb hr hlocks hW h dX6_ask_195)
      · replace h := h.2 c_5
        refine lv_aload_n hx hb dX6_ask_12 rfl (lv_at hl 2 rfl) ?_
        refine zw_get (C := RX6) (T := TX6) (N := 24) hx hb hts hin6 hown hE.1 hW mC_M rfl 1 (by decide) (hts (.fieldLink RX6 13 "UnionListModel" "title" "[I") (by decide +kernel)) (fun _ h9 => h9) rfl dX6_ask_13 ?_
        refine lv_iload_n hx hb dX6_ask_16 rfl (lv_at hl 0 rfl) ?_
        obtain ⟨hb_35, h⟩ := h
        refine zw_iald hx hb hE.1 hW mC_1 hb_35 dX6_ask_17 ?_
        refine lv_aload_n hx hb dX6_ask_18 rfl (lv_at hl 2 rfl) ?_
        refine zw_get (C := RX6) (T := TX6) (N := 24) hx hb hts hin6 hown hE.1 hW mC_M rfl 9 (by decide) (hts (.fieldLink RX6 34 "UnionListModel" "wanted" "[I") (by decide +kernel)) (fun _ h9 => h9) rfl dX6_ask_19 ?_
        refine lv_iload_n hx hb dX6_ask_22 rfl (lv_at hl 3 rfl) ?_
        obtain ⟨hb_36, h⟩ := h
        refine zw_iald hx hb hE.1 hW mC_9 hb_36 dX6_ask_23 ?_
        refine lv_icmp_ne (tgt := 74) hx hb dX6_ask_24 (by decide) (fun c_37 => ?_) (fun c_37 => ?_)
        · replace h := h.2 c_37
          refine lv_iconst (v := 0) hx hb dX6_ask_74 (by decide) ?_
          refine lv_istore (lv' := [(4, .int 0), (3, .int x1), (2, .int x2), (0, .ref (S0 + 9)), (1, .int p1)]) hx hb dX6_ask_75 hl (by decide) rfl (fun ls hl => ?_)
          refine lv_iload hx hb dX6_ask_77 (lv_at hl 0 rfl) ?_
          refine lv_if_eq (tgt := 123) hx hb dX6_ask_79 (by decide) (fun _ => ?_) (fun h9 => absurd (by decide) h9)
          refine lv_iinc (v := (x1 + 1)) (lv' := [(3, .int (x1 + 1)), (4, .int 0), (2, .int x2), (0, .ref (S0 + 9)), (1, .int p1)]) hx hb dX6_ask_123 hl (k := 1) rfl rfl (by decide) rfl (fun ls hl => ?_)
          refine lv_goto (tgt := 4) hx hb dX6_ask_126 (by decide) ?_
          exact ih4 (x1 + 1) x2 m3 _ _ _ h  hW (lv_sub hl [0, 2, 3, 4] rfl)
        · replace h := h.1 c_37
          refine lv_aload_n hx hb dX6_ask_27 rfl (lv_at hl 2 rfl) ?_
          refine zw_get (C := RX6) (T := TX6) (N := 24) hx hb hts hin6 hown hE.1 hW mC_M rfl 4 (by decide) (hts (.fieldLink RX6 22 "UnionListModel" "knows" "[I") (by decide +kernel)) (fun _ h9 => h9) rfl dX6_ask_28 ?_
          refine lv_iload_n hx hb dX6_ask_31 rfl (lv_at hl 0 rfl) ?_
          obtain ⟨hb_38, h⟩ := h
          refine zw_iald hx hb hE.1 hW mC_4 hb_38 dX6_ask_32 ?_
          refine lv_iconst (v := 1) hx hb dX6_ask_33 (by decide) ?_
          refine lv_icmp_ne (tgt := 74) hx hb dX6_ask_34 (by decide) (fun c_39 => ?_) (fun c_39 => ?_)
          · replace h := h.2 c_39
            refine lv_iconst (v := 0) hx hb dX6_ask_74 (by decide) ?_
            refine lv_istore (lv' := [(4, .int 0), (3, .int x1), (2, .int x2), (0, .ref (S0 + 9)), (1, .int p1)]) hx hb dX6_ask_75 hl (by decide) rfl (fun ls hl => ?_)
            refine lv_iload hx hb dX6_ask_77 (lv_at hl 0 rfl) ?_
            refine lv_if_eq (tgt := 123) hx hb dX6_ask_79 (by decide) (fun _ => ?_) (fun h9 => absurd (by decide) h9)
            refine lv_iinc (v := (x1 + 1)) (lv' := [(3, .int (x1 + 1)), (4, .int 0), (2, .int x2), (0, .ref (S0 + 9)), (1, .int p1)]) hx hb dX6_ask_123 hl (k := 1) rfl rfl (by decide) rfl (fun ls hl => ?_)
            refine lv_goto (tgt := 4) hx hb dX6_ask_126 (by decide) ?_
            exact ih4 (x1 + 1) x2 m3 _ _ _ h  hW (lv_sub hl [0, 2, 3, 4] rfl)
          · replace h := h.1 c_39
            refine lv_aload_n hx hb dX6_ask_37 rfl (lv_at hl 2 rfl) ?_
            refine zw_get (C := RX6) (T := TX6) (N := 24) hx hb hts hin6 hown hE.1 hW mC_M rfl 0 (by decide) (hts (.fieldLink RX6 7 "UnionListModel" "home" "[I") (by decide +kernel)) (fun _ h9 => h9) rfl dX6_ask_38 ?_
            refine lv_iload_n hx hb dX6_ask_41 rfl (lv_at hl 0 rfl) ?_
            obtain ⟨hb_40, h⟩ := h
            refine zw_iald hx hb hE.1 hW mC_0 hb_40 dX6_ask_42 ?_
            refine lv_aload_n hx hb dX6_ask_43 rfl (lv_at hl 2 rfl) ?_
            refine zw_get (C := RX6) (T := TX6) (N := 24) hx hb hts hin6 hown hE.1 hW mC_M rfl 8 (by decide) (hts (.fieldLink RX6 31 "UnionListModel" "whose" "[I") (by decide +kernel)) (fun _ h9 => h9) rfl dX6_ask_44 ?_
            refine lv_iload_n hx hb dX6_ask_47 rfl (lv_at hl 3 rfl) ?_
            obtain ⟨hb_41, h⟩ := h
            refine zw_iald hx hb hE.1 hW mC_8 hb_41 dX6_ask_48 ?_
            refine lv_icmp_eq (tgt := 74) hx hb dX6_ask_49 (by decide) (fun c_42 => ?_) (fun c_42 => ?_)
            · replace h := h.1 c_42
              refine lv_iconst (v := 0) hx hb dX6_ask_74 (by decide) ?_
              refine lv_istore (lv' := [(4, .int 0), (3, .int x1), (2, .int x2), (0, .ref (S0 + 9)), (1, .int p1)]) hx hb dX6_ask_75 hl (by decide) rfl (fun ls hl => ?_)
              refine lv_iload hx hb dX6_ask_77 (lv_at hl 0 rfl) ?_
              refine lv_if_eq (tgt := 123) hx hb dX6_ask_79 (by decide) (fun _ => ?_) (fun h9 => absurd (by decide) h9)
              refine lv_iinc (v := (x1 + 1)) (lv' := [(3, .int (x1 + 1)), (4, .int 0), (2, .int x2), (0, .ref (S0 + 9)), (1, .int p1)]) hx hb dX6_ask_123 hl (k := 1) rfl rfl (by decide) rfl (fun ls hl => ?_)
              refine lv_goto (tgt := 4) hx hb dX6_ask_126 (by decide) ?_
              exact ih4 (x1 + 1) x2 m3 _ _ _ h  hW (lv_sub hl [0, 2, 3, 4] rfl)
            · replace h := h.2 c_42
              refine lv_aload_n hx hb dX6_ask_52 rfl (lv_at hl 2 rfl) ?_
              refine zw_get (C := RX6) (T := TX6) (N := 24) hx hb hts hin6 hown hE.1 hW mC_M rfl 13 (by decide) (hts (.fieldLink RX6 46 "UnionListModel" "asked" "[I") (by decide +kernel)) (fun _ h9 => h9) rfl dX6_ask_53 ?_
              refine lv_iload_n hx hb dX6_ask_56 rfl (lv_at hl 3 rfl) ?_
              obtain ⟨hb_43, h⟩ := h
              refine zw_iald hx hb hE.1 hW mC_13 hb_43 dX6_ask_57 ?_
              refine lv_aload_n hx hb dX6_ask_58 rfl (lv_at hl 2 rfl) ?_
              refine zw_get (C := RX6) (T := TX6) (N := 24) hx hb hts hin6 hown hE.1 hW mC_M rfl 0 (by decide) (hts (.fieldLink RX6 7 "UnionListModel" "home" "[I") (by decide +kernel)) (fun _ h9 => h9) rfl dX6_ask_59 ?_
              refine lv_iload_n hx hb dX6_ask_62 rfl (lv_at hl 0 rfl) ?_
              obtain ⟨hb_44, h⟩ := h
              refine zw_iald hx hb hE.1 hW mC_0 hb_44 dX6_ask_63 ?_
              refine lv_ishr hx hb dX6_ask_64 ?_
              refine lv_iconst (v := 1) hx hb dX6_ask_65 (by decide) ?_
              refine lv_iand hx hb dX6_ask_66 ?_
              refine lv_if_ne (tgt := 74) hx hb dX6_ask_67 (by decide) (fun c_45 => ?_) (fun c_45 => ?_)
              · replace h := h.2 c_45
                refine lv_iconst (v := 0) hx hb dX6_ask_74 (by decide) ?_
                refine lv_istore (lv' := [(4, .int 0), (3, .int x1), (2, .int x2), (0, .ref (S0 + 9)), (1, .int p1)]) hx hb dX6_ask_75 hl (by decide) rfl (fun ls hl => ?_)
                refine lv_iload hx hb dX6_ask_77 (lv_at hl 0 rfl) ?_
                refine lv_if_eq (tgt := 123) hx hb dX6_ask_79 (by decide) (fun _ => ?_) (fun h9 => absurd (by decide) h9)
                refine lv_iinc (v := (x1 + 1)) (lv' := [(3, .int (x1 + 1)), (4, .int 0), (2, .int x2), (0, .ref (S0 + 9)), (1, .int p1)]) hx hb dX6_ask_123 hl (k := 1) rfl rfl (by decide) rfl (fun ls hl => ?_)
                refine lv_goto (tgt := 4) hx hb dX6_ask_126 (by decide) ?_
                exact ih4 (x1 + 1) x2 m3 _ _ _ h  hW (lv_sub hl [0, 2, 3, 4] rfl)
              · replace h := h.1 c_45
                refine lv_iconst (v := 1) hx hb dX6_ask_70 (by decide) ?_
                refine lv_goto (tgt := 75) hx hb dX6_ask_71 (by decide) ?_
                refine lv_istore (lv' := [(4, .int 1), (3, .int x1), (2, .int x2), (0, .ref (S0 + 9)), (1, .int p1)]) hx hb dX6_ask_75 hl (by decide) rfl (fun ls hl => ?_)
                refine lv_iload hx hb dX6_ask_77 (lv_at hl 0 rfl) ?_
                refine lv_if_eq (tgt := 123) hx hb dX6_ask_79 (by decide) (fun h9 => absurd h9 (by decide)) (fun _ => ?_)
                refine lv_iload_n hx hb dX6_ask_82 rfl (lv_at hl 2 rfl) ?_
                refine lv_if_lt (tgt := 121) hx hb dX6_ask_83 (by decide) (fun c_46 => ?_) (fun c_46 => ?_)
                · replace h := h.1 c_46
                  refine lv_iload_n hx hb dX6_ask_121 rfl (lv_at hl 1 rfl) ?_
                  refine lv_istore_n (lv' := [(2, .int x1), (4, .int 1), (3, .int x1), (0, .ref (S0 + 9)), (1, .int p1)]) hx hb dX6_ask_122 rfl hl (by decide) rfl (fun ls hl => ?_)
                  refine lv_iinc (v := (x1 + 1)) (lv' := [(3, .int (x1 + 1)), (2, .int x1), (4, .int 1), (0, .ref (S0 + 9)), (1, .int p1)]) hx hb dX6_ask_123 hl (k := 2) rfl rfl (by decide) rfl (fun ls hl => ?_)
                  refine lv_goto (tgt := 4) hx hb dX6_ask_126 (by decide) ?_
                  exact ih4 (x1 + 1) x1 m3 _ _ _ h  hW (lv_sub hl [0, 1, 3, 4] rfl)
                · replace h := h.2 c_46
                  refine lv_aload_n hx hb dX6_ask_86 rfl (lv_at hl 3 rfl) ?_
                  refine lv_aload_n hx hb dX6_ask_87 rfl (lv_at hl 3 rfl) ?_
                  refine zw_get (C := RX6) (T := TX6) (N := 24) hx hb hts hin6 hown hE.1 hW mC_M rfl 0 (by decide) (hts (.fieldLink RX6 7 "UnionListModel" "home" "[I") (by decide +kernel)) (fun _ h9 => h9) rfl dX6_ask_88 ?_
                  refine lv_iload_n hx hb dX6_ask_91 rfl (lv_at hl 1 rfl) ?_
                  obtain ⟨hb_47, h⟩ := h
                  refine zw_iald hx hb hE.1 hW mC_0 hb_47 dX6_ask_92 ?_
                  refine lv_aload_n hx hb dX6_ask_93 rfl (lv_at hl 3 rfl) ?_
                  refine zw_get (C := RX6) (T := TX6) (N := 24) hx hb hts hin6 hown hE.1 hW mC_M rfl 8 (by decide) (hts (.fieldLink RX6 31 "UnionListModel" "whose" "[I") (by decide +kernel)) (fun _ h9 => h9) rfl dX6_ask_94 ?_
                  refine lv_iload_n hx hb dX6_ask_97 rfl (lv_at hl 4 rfl) ?_
                  obtain ⟨hb_48, h⟩ := h
                  refine zw_iald hx hb hE.1 hW mC_8 hb_48 dX6_ask_98 ?_
                  refine zc_i (va_runV (As := [.int (m3 0 x1.toNatClampNeg), .int (m3 8 p1.toNatClampNeg)]) (rest := []) ⟨hx, hb, hml, hown, hts⟩ (cX6_way_ok l hlt D S0 g m3 (m3 0 x1.toNatClampNeg) (m3 8 p1.toNatClampNeg) _ h) (cwV 2 hts gX6_ask_X6_way rfl rfl rfl (by decide +kernel) ⟨Nat.le_of_ble_eq_true rfl, Nat.le_of_ble_eq_true rfl⟩) (zpreV (q := (RX6, TX6, 24)) hE hs hW mC_M rfl) rfl rfl hl.1 rfl (lv_room (Nat.le_of_ble_eq_true rfl)) dX6_ask_99 ⟨by show _ ≤ 0; omega, by show _ ≤ 8 * (0); omega⟩) hW (fun r49 m50 H locs h hW => ?_)
                  refine W.widen (k := 0) (n := 8 * (0)) (by omega) (by omega) ?_
                  refine lv_aload_n hx hb dX6_ask_102 rfl (lv_at hl 3 rfl) ?_
                  refine lv_aload_n hx hb dX6_ask_103 rfl (lv_at hl 3 rfl) ?_
                  refine zw_get (C := RX6) (T := TX6) (N := 24) hx hb hts hin6 hown hE.1 hW mC_M rfl 0 (by decide) (hts (.fieldLink RX6 7 "UnionListModel" "home" "[I") (by decide +kernel)) (fun _ h9 => h9) rfl dX6_ask_104 ?_
                  refine lv_iload_n hx hb dX6_ask_107 rfl (lv_at hl 2 rfl) ?_
                  obtain ⟨hb_51, h⟩ := h
                  refine zw_iald hx hb hE.1 hW mC_0 hb_51 dX6_ask_108 ?_
                  refine lv_aload_n hx hb dX6_ask_109 rfl (lv_at hl 3 rfl) ?_
                  refine zw_get (C := RX6) (T := TX6) (N := 24) hx hb hts hin6 hown hE.1 hW mC_M rfl 8 (by decide) (hts (.fieldLink RX6 31 "UnionListModel" "whose" "[I") (by decide +kernel)) (fun _ h9 => h9) rfl dX6_ask_110 ?_
                  refine lv_iload_n hx hb dX6_ask_113 rfl (lv_at hl 4 rfl) ?_
                  obtain ⟨hb_52, h⟩ := h
                  refine zw_iald hx hb hE.1 hW mC_8 hb_52 dX6_ask_114 ?_
                  refine zc_i (va_runV (As := [.int (m50 0 x2.toNatClampNeg), .int (m50 8 p1.toNatClampNeg)]) (rest := [.int r49]) ⟨hx, hb, hml, hown, hts⟩ (cX6_way_ok l hlt D S0 g m50 (m50 0 x2.toNatClampNeg) (m50 8 p1.toNatClampNeg) _ h) (cwV 2 hts gX6_ask_X6_way rfl rfl rfl (by decide +kernel) ⟨Nat.le_of_ble_eq_true rfl, Nat.le_of_ble_eq_true rfl⟩) (zpreV (q := (RX6, TX6, 24)) hE hs hW mC_M rfl) rfl rfl hl.1 rfl (lv_room (Nat.le_of_ble_eq_true rfl)) dX6_ask_115 ⟨by show _ ≤ 0; omega, by show _ ≤ 8 * (0); omega⟩) hW (fun r53 m54 H locs h hW => ?_)
                  refine W.widen (k := 0) (n := 8 * (0)) (by omega) (by omega) ?_
                  refine lv_icmp_ge (tgt := 123) hx hb dX6_ask_118 (by decide) (fun c_55 => ?_) (fun c_55 => ?_)
                  · replace h := h.1 c_55
                    refine lv_iinc (v := (x1 + 1)) (lv' := [(3, .int (x1 + 1)), (4, .int 1), (2, .int x2), (0, .ref (S0 + 9)), (1, .int p1)]) hx hb dX6_ask_123 hl (k := 1) rfl rfl (by decide) rfl (fun ls hl => ?_)
                    refine lv_goto (tgt := 4) hx hb dX6_ask_126 (by decide) ?_
                    exact ih4 (x1 + 1) x2 m54 _ _ _ h  hW (lv_sub hl [0, 2, 3, 4] rfl)
                  · replace h := h.2 c_55
                    refine lv_iload_n hx hb dX6_ask_121 rfl (lv_at hl 1 rfl) ?_
                    refine lv_istore_n (lv' := [(2, .int x1), (4, .int 1), (3, .int x1), (0, .ref (S0 + 9)), (1, .int p1)]) hx hb dX6_ask_122 rfl hl (by decide) rfl (fun ls hl => ?_)
                    refine lv_iinc (v := (x1 + 1)) (lv' := [(3, .int (x1 + 1)), (2, .int x1), (4, .int 1), (0, .ref (S0 + 9)), (1, .int p1)]) hx hb dX6_ask_123 hl (k := 2) rfl rfl (by decide) rfl (fun ls hl => ?_)
                    refine lv_goto (tgt := 4) hx hb dX6_ask_126 (by decide) ?_
                    exact ih4 (x1 + 1) x1 m54 _ _ _ h  hW (lv_sub hl [0, 1, 3, 4] rfl)
  obtain ⟨f56, h⟩ := h
  exact lp4 f56 0 (-1) m0 _ _ _ h  hW (lv_sub hl [0, 1, 2, 3] rfl)

def wX6_request (m0 : mS) (p1 : Int32) (p2 : Int32) (Q : Int32 → mS → Prop) : Prop := (wX6_isHouse m0 p1 (fun r1 m2 => ((r1 = 0 → (wX6_holds m2 1 (fun r4 m5 => ((r4 = 0 → (vp_in (m5 15 0) 40 ∧ (∀ m8 : mS, m8 = mset m5 8 (m5 15 0).toNatClampNeg p1 → (vp_in (m8 15 0) 40 ∧ (∀ m10 : mS, m10 = mset m8 9 (m8 15 0).toNatClampNeg p2 → (∀ m11 : mS, m11 = mset m10 15 0 ((m10 15 0) + 1) → (wX6_ask m11 ((m11 15 0) - 1) (fun m13 => Q ((m13 15 0) - 1) m13)))))))) ∧ (¬ r4 = 0 → Q (-1) m5))))) ∧ (¬ r1 = 0 → (wX6_between m2 p2 0 7 (fun r14 m15 => ((r14 = 0 → (wX6_holds m15 1 (fun r38 m39 => ((r38 = 0 → (vp_in (m39 15 0) 40 ∧ (∀ m42 : mS, m42 = mset m39 8 (m39 15 0).toNatClampNeg p1 → (vp_in (m42 15 0) 40 ∧ (∀ m44 : mS, m44 = mset m42 9 (m42 15 0).toNatClampNeg p2 → (∀ m45 : mS, m45 = mset m44 15 0 ((m44 15 0) + 1) → (wX6_ask m45 ((m45 15 0) - 1) (fun m47 => Q ((m47 15 0) - 1) m47)))))))) ∧ (¬ r38 = 0 → Q (-1) m39))))) ∧ (¬ r14 = 0 → (((m15 15 0) = 40 → (wX6_holds m15 2 (fun r28 m29 => ((r28 = 0 → (vp_in (m29 15 0) 40 ∧ (∀ m32 : mS, m32 = mset m29 8 (m29 15 0).toNatClampNeg p1 → (vp_in (m32 15 0) 40 ∧ (∀ m34 : mS, m34 = mset m32 9 (m32 15 0).toNatClampNeg p2 → (∀ m35 : mS, m35 = mset m34 15 0 ((m34 15 0) + 1) → (wX6_ask m35 ((m35 15 0) - 1) (fun m37 => Q ((m37 15 0) - 1) m37)))))))) ∧ (¬ r28 = 0 → Q (-1) m29))))) ∧ (¬ (m15 15 0) = 40 → (wX6_holds m15 0 (fun r18 m19 => ((r18 = 0 → (vp_in (m19 15 0) 40 ∧ (∀ m22 : mS, m22 = mset m19 8 (m19 15 0).toNatClampNeg p1 → (vp_in (m22 15 0) 40 ∧ (∀ m24 : mS, m24 = mset m22 9 (m22 15 0).toNatClampNeg p2 → (∀ m25 : mS, m25 = mset m24 15 0 ((m24 15 0) + 1) → (wX6_ask m25 ((m25 15 0) - 1) (fun m27 => Q ((m27 15 0) - 1) m27)))))))) ∧ (¬ r18 = 0 → Q (-1) m19))))))))))))))
theorem hin_X6_request_6 : ∀ w ∈ u_ws RX6 TX6 24, w ∈ wsX6_request := by decide +kernel
set_option maxHeartbeats 8000000 in
set_option maxRecDepth 100000 in
theorem cX6_request_ok (l : Launch) (hlt : l.stackTraces = false) (D : zD) (S0 : Nat) (g : zF) (m0 : mS) (p1 : Int32) (p2 : Int32)  (Q : Int32 → mS → Prop) (h : wX6_request m0 p1 p2 Q) : Met l yX6_request wsX6_request { frames := 2, cells := 0, slots := 8 * (0), locals := 47 } (zPc D S0 (mR D S0 g m0) [.ref (S0 + 9), .int p1, .int p2]) (va_Qi Q (zB D S0 (fun u => mR D S0 g u)) (zA S0)) (0) (8 * (0)) (zA S0) := by
  refine zMet (cc := cX6_request) (maxL := 3) (ret := (some .int)) (by decide) rfl (Nat.le_of_ble_eq_true rfl) (fun p e s m args below meth c ls hx hb hr hml hown hts hlocks hnm hs hE hW hl => ?_)
  have hin6 := hin_X6_request_6
  replace hl : lv_has ls 3 [(0, .ref (S0 + 9)), (1, .int p1), (2, .int p2)] := hl
  unfold wX6_request at h
  refine lv_aload_n hx hb dX6_request_0 rfl (lv_at hl 0 rfl) ?_
  refine lv_aload_n hx hb dX6_request_1 rfl (lv_at hl 0 rfl) ?_
  refine lv_iload_n hx hb dX6_request_2 rfl (lv_at hl 1 rfl) ?_
  refine zc_i (va_runV (As := [.int p1]) (rest := [.ref (S0 + 9)]) ⟨hx, hb, hml, hown, hts⟩ (cX6_isHouse_ok l hlt D S0 g m0 p1 _ h) (cwV 1 hts gX6_request_X6_isHouse rfl rfl rfl (by decide +kernel) ⟨Nat.le_of_ble_eq_true rfl, Nat.le_of_ble_eq_true rfl⟩) (zpreV (q := (RX6, TX6, 24)) hE hs hW mC_M rfl) rfl rfl hl.1 rfl (lv_room (Nat.le_of_ble_eq_true rfl)) dX6_request_3 ⟨by show _ ≤ 0; omega, by show _ ≤ 8 * (0); omega⟩) hW (fun r1 m2 H locs h hW => ?_)
  obtain ⟨h, hz_r1⟩ := h
  refine W.widen (k := 0) (n := 8 * (0)) (by omega) (by omega) ?_
  refine lv_if_eq (tgt := 20) hx hb dX6_request_6 (by decide) (fun c_3 => ?_) (fun c_3 => ?_)
  · replace h := h.1 c_3
    refine lv_iconst (v := 1) hx hb dX6_request_20 (by decide) ?_
    refine lv_goto (tgt := 38) hx hb dX6_request_21 (by decide) ?_
    refine zc_i (va_runV (As := [.int 1]) (rest := []) ⟨hx, hb, hml, hown, hts⟩ (cX6_holds_ok l hlt D S0 g m2 1 _ h) (cwV 1 hts gX6_request_X6_holds rfl rfl rfl (by decide +kernel) ⟨Nat.le_of_ble_eq_true rfl, Nat.le_of_ble_eq_true rfl⟩) (zpreV (q := (RX6, TX6, 24)) hE hs hW mC_M rfl) rfl rfl hl.1 rfl (lv_room (Nat.le_of_ble_eq_true rfl)) dX6_request_38 ⟨by show _ ≤ 0; omega, by show _ ≤ 8 * (0); omega⟩) hW (fun r4 m5 H locs h hW => ?_)
    obtain ⟨h, hz_r4⟩ := h
    refine W.widen (k := 0) (n := 8 * (0)) (by omega) (by omega) ?_
    refine lv_if_eq (tgt := 46) hx hb dX6_request_41 (by decide) (fun c_6 => ?_) (fun c_6 => ?_)
    · replace h := h.1 c_6
      refine lv_aload_n hx hb dX6_request_46 rfl (lv_at hl 0 rfl) ?_
      refine zw_get (C := RX6) (T := TX6) (N := 24) hx hb hts hin6 hown hE.1 hW mC_M rfl 8 (by decide) (hts (.fieldLink RX6 31 "UnionListModel" "whose" "[I") (by decide +kernel)) (fun _ h9 => h9) rfl dX6_request_47 ?_
      refine lv_aload_n hx hb dX6_request_50 rfl (lv_at hl 0 rfl) ?_
      refine zw_get (C := RX6) (T := TX6) (N := 24) hx hb hts hin6 hown hE.1 hW mC_M rfl 15 (by decide) (hts (.fieldLink RX6 78 "UnionListModel" "requests" "I") (by decide +kernel)) (fun _ h9 => h9) rfl dX6_request_51 ?_
      refine lv_iload_n hx hb dX6_request_54 rfl (lv_at hl 1 rfl) ?_
      obtain ⟨hb_7, h⟩ := h
      refine zw_iast hx hb hE.1 hW mC_8 hb_7 dX6_request_55 mP_8 (fun H locs hW => ?_)
      obtain ⟨m8, em8⟩ : ∃ y, y = mset m5 8 (m5 15 0).toNatClampNeg p1 := ⟨_, rfl⟩
      rw [← em8] at hW
      replace h := h m8 em8
      refine lv_aload_n hx hb dX6_request_56 rfl (lv_at hl 0 rfl) ?_
      refine zw_get (C := RX6) (T := TX6) (N := 24) hx hb hts hin6 hown hE.1 hW mC_M rfl 9 (by decide) (hts (.fieldLink RX6 34 "UnionListModel" "wanted" "[I") (by decide +kernel)) (fun _ h9 => h9) rfl dX6_request_57 ?_
      refine lv_aload_n hx hb dX6_request_60 rfl (lv_at hl 0 rfl) ?_
      refine zw_get (C := RX6) (T := TX6) (N := 24) hx hb hts hin6 hown hE.1 hW mC_M rfl 15 (by decide) (hts (.fieldLink RX6 78 "UnionListModel" "requests" "I") (by decide +kernel)) (fun _ h9 => h9) rfl dX6_request_61 ?_
      refine lv_iload_n hx hb dX6_request_64 rfl (lv_at hl 2 rfl) ?_
      obtain ⟨hb_9, h⟩ := h
      refine zw_iast hx hb hE.1 hW mC_9 hb_9 dX6_request_65 mP_9 (fun H locs hW => ?_)
      obtain ⟨m10, em10⟩ : ∃ y, y = mset m8 9 (m8 15 0).toNatClampNeg p2 := ⟨_, rfl⟩
      rw [← em10] at hW
      replace h := h m10 em10
      refine lv_aload_n hx hb dX6_request_66 rfl (lv_at hl 0 rfl) ?_
      refine lv_dup hx hb dX6_request_67 rfl ?_
      refine zw_get (C := RX6) (T := TX6) (N := 24) hx hb hts hin6 hown hE.1 hW mC_M rfl 15 (by decide) (hts (.fieldLink RX6 78 "UnionListModel" "requests" "I") (by decide +kernel)) (fun _ h9 => h9) rfl dX6_request_68 ?_
      refine lv_iconst (v := 1) hx hb dX6_request_71 (by decide) ?_
      refine lv_iadd hx hb dX6_request_72 ?_
      refine zw_put (C := RX6) (T := TX6) (N := 24) hx hb hts hin6 tyX6 tyX6_ok nmX6 hown hE.1 hW mC_M rfl 15 (by decide) (hts (.fieldLink RX6 78 "UnionListModel" "requests" "I") (by decide +kernel)) (fun _ h9 => h9) rfl rfl rfl (Nat.le_of_ble_eq_true rfl) dX6_request_73 mP_15 (fun H locs hW => ?_)
      obtain ⟨m11, em11⟩ : ∃ y, y = mset m10 15 0 ((m10 15 0) + 1) := ⟨_, rfl⟩
      rw [← em11] at hW
      replace h := h m11 em11
      refine lv_aload_n hx hb dX6_request_76 rfl (lv_at hl 0 rfl) ?_
      refine lv_aload_n hx hb dX6_request_77 rfl (lv_at hl 0 rfl) ?_
      refine zw_get (C := RX6) (T := TX6) (N := 24) hx hb hts hin6 hown hE.1 hW mC_M rfl 15 (by decide) (hts (.fieldLink RX6 78 "UnionListModel" "requests" "I") (by decide +kernel)) (fun _ h9 => h9) rfl dX6_request_78 ?_
      refine lv_iconst (v := 1) hx hb dX6_request_81 (by decide) ?_
      refine lv_isub hx hb dX6_request_82 ?_
      refine zc_v (va_runV (As := [.int ((m11 15 0) - 1)]) (rest := []) ⟨hx, hb, hml, hown, hts⟩ (cX6_ask_ok l hlt D S0 g m11 ((m11 15 0) - 1) _ h) (cwV 1 hts gX6_request_X6_ask rfl rfl rfl (by decide +kernel) ⟨Nat.le_of_ble_eq_true rfl, Nat.le_of_ble_eq_true rfl⟩) (zpreV (q := (RX6, TX6, 24)) hE hs hW mC_M rfl) rfl rfl hl.1 rfl (lv_room (Nat.le_of_ble_eq_true rfl)) dX6_request_83 ⟨by show _ ≤ 0; omega, by show _ ≤ 8 * (0); omega⟩) hW (fun m13 H locs h hW => ?_)
      refine W.widen (k := 0) (n := 8 * (0)) (by omega) (by omega) ?_
      refine lv_aload_n hx hb dX6_request_86 rfl (lv_at hl 0 rfl) ?_
      refine zw_get (C := RX6) (T := TX6) (N := 24) hx hb hts hin6 hown hE.1 hW mC_M rfl 15 (by decide) (hts (.fieldLink RX6 78 "UnionListModel" "requests" "I") (by decide +kernel)) (fun _ h9 => h9) rfl dX6_request_87 ?_
      refine lv_iconst (v := 1) hx hb dX6_request_90 (by decide) ?_
      refine lv_isub hx hb dX6_request_91 ?_
      refine W.widen (k := 0) (n := 8 * (0)) (by omega) (by omega) ?_
      exact (z_iret hx hb hr hlocks hW h dX6_request_92)
    · replace h := h.2 c_6
      refine lv_iconst (v := (-1)) hx hb dX6_request_44 (by decide) ?_
      refine W.widen (k := 0) (n := 8 * (0)) (by omega) (by omega) ?_
      exact (z_iret hx hb hr hlocks hW h dX6_request_45)
  · replace h := h.2 c_3
    refine lv_aload_n hx hb dX6_request_9 rfl (lv_at hl 0 rfl) ?_
    refine lv_iload_n hx hb dX6_request_10 rfl (lv_at hl 2 rfl) ?_
    refine lv_iconst (v := 0) hx hb dX6_request_11 (by decide) ?_
    refine lv_bipush (v := 7) hx hb dX6_request_12 (by decide) ?_
    refine zc_i (va_runV (As := [.int p2, .int 0, .int 7]) (rest := [.ref (S0 + 9)]) ⟨hx, hb, hml, hown, hts⟩ (cX6_between_ok l hlt D S0 g m2 p2 0 7 _ h) (cwV 3 hts gX6_request_X6_between rfl rfl rfl (by decide +kernel) ⟨Nat.le_of_ble_eq_true rfl, Nat.le_of_ble_eq_true rfl⟩) (zpreV (q := (RX6, TX6, 24)) hE hs hW mC_M rfl) rfl rfl hl.1 rfl (lv_room (Nat.le_of_ble_eq_true rfl)) dX6_request_14 ⟨by show _ ≤ 0; omega, by show _ ≤ 8 * (0); omega⟩) hW (fun r14 m15 H locs h hW => ?_)
    obtain ⟨h, hz_r14⟩ := h
    refine W.widen (k := 0) (n := 8 * (0)) (by omega) (by omega) ?_
    refine lv_if_ne (tgt := 24) hx hb dX6_request_17 (by decide) (fun c_16 => ?_) (fun c_16 => ?_)
    · replace h := h.2 c_16
      refine lv_aload_n hx hb dX6_request_24 rfl (lv_at hl 0 rfl) ?_
      refine zw_get (C := RX6) (T := TX6) (N := 24) hx hb hts hin6 hown hE.1 hW mC_M rfl 15 (by decide) (hts (.fieldLink RX6 78 "UnionListModel" "requests" "I") (by decide +kernel)) (fun _ h9 => h9) rfl dX6_request_25 ?_
      refine lv_bipush (v := 40) hx hb dX6_request_28 (by decide) ?_
      refine lv_icmp_ne (tgt := 37) hx hb dX6_request_30 (by decide) (fun c_17 => ?_) (fun c_17 => ?_)
      · replace h := h.2 c_17
        refine lv_iconst (v := 0) hx hb dX6_request_37 (by decide) ?_
        refine zc_i (va_runV (As := [.int 0]) (rest := []) ⟨hx, hb, hml, hown, hts⟩ (cX6_holds_ok l hlt D S0 g m15 0 _ h) (cwV 1 hts gX6_request_X6_holds rfl rfl rfl (by decide +kernel) ⟨Nat.le_of_ble_eq_true rfl, Nat.le_of_ble_eq_true rfl⟩) (zpreV (q := (RX6, TX6, 24)) hE hs hW mC_M rfl) rfl rfl hl.1 rfl (lv_room (Nat.le_of_ble_eq_true rfl)) dX6_request_38 ⟨by show _ ≤ 0; omega, by show _ ≤ 8 * (0); omega⟩) hW (fun r18 m19 H locs h hW => ?_)
        obtain ⟨h, hz_r18⟩ := h
        refine W.widen (k := 0) (n := 8 * (0)) (by omega) (by omega) ?_
        refine lv_if_eq (tgt := 46) hx hb dX6_request_41 (by decide) (fun c_20 => ?_) (fun c_20 => ?_)
        · replace h := h.1 c_20
          refine lv_aload_n hx hb dX6_request_46 rfl (lv_at hl 0 rfl) ?_
          refine zw_get (C := RX6) (T := TX6) (N := 24) hx hb hts hin6 hown hE.1 hW mC_M rfl 8 (by decide) (hts (.fieldLink RX6 31 "UnionListModel" "whose" "[I") (by decide +kernel)) (fun _ h9 => h9) rfl dX6_request_47 ?_
          refine lv_aload_n hx hb dX6_request_50 rfl (lv_at hl 0 rfl) ?_
          refine zw_get (C := RX6) (T := TX6) (N := 24) hx hb hts hin6 hown hE.1 hW mC_M rfl 15 (by decide) (hts (.fieldLink RX6 78 "UnionListModel" "requests" "I") (by decide +kernel)) (fun _ h9 => h9) rfl dX6_request_51 ?_
          refine lv_iload_n hx hb dX6_request_54 rfl (lv_at hl 1 rfl) ?_
          obtain ⟨hb_21, h⟩ := h
          refine zw_iast hx hb hE.1 hW mC_8 hb_21 dX6_request_55 mP_8 (fun H locs hW => ?_)
          obtain ⟨m22, em22⟩ : ∃ y, y = mset m19 8 (m19 15 0).toNatClampNeg p1 := ⟨_, rfl⟩
          rw [← em22] at hW
          replace h := h m22 em22
          refine lv_aload_n hx hb dX6_request_56 rfl (lv_at hl 0 rfl) ?_
          refine zw_get (C := RX6) (T := TX6) (N := 24) hx hb hts hin6 hown hE.1 hW mC_M rfl 9 (by decide) (hts (.fieldLink RX6 34 "UnionListModel" "wanted" "[I") (by decide +kernel)) (fun _ h9 => h9) rfl dX6_request_57 ?_
          refine lv_aload_n hx hb dX6_request_60 rfl (lv_at hl 0 rfl) ?_
          refine zw_get (C := RX6) (T := TX6) (N := 24) hx hb hts hin6 hown hE.1 hW mC_M rfl 15 (by decide) (hts (.fieldLink RX6 78 "UnionListModel" "requests" "I") (by decide +kernel)) (fun _ h9 => h9) rfl dX6_request_61 ?_
          refine lv_iload_n hx hb dX6_request_64 rfl (lv_at hl 2 rfl) ?_
          obtain ⟨hb_23, h⟩ := h
          refine zw_iast hx hb hE.1 hW mC_9 hb_23 dX6_request_65 mP_9 (fun H locs hW => ?_)
          obtain ⟨m24, em24⟩ : ∃ y, y = mset m22 9 (m22 15 0).toNatClampNeg p2 := ⟨_, rfl⟩
          rw [← em24] at hW
          replace h := h m24 em24
          refine lv_aload_n hx hb dX6_request_66 rfl (lv_at hl 0 rfl) ?_
          refine lv_dup hx hb dX6_request_67 rfl ?_
          refine zw_get (C := RX6) (T := TX6) (N := 24) hx hb hts hin6 hown hE.1 hW mC_M rfl 15 (by decide) (hts (.fieldLink RX6 78 "UnionListModel" "requests" "I") (by decide +kernel)) (fun _ h9 => h9) rfl dX6_request_68 ?_
          refine lv_iconst (v := 1) hx hb dX6_request_71 (by decide) ?_
          refine lv_iadd hx hb dX6_request_72 ?_
          refine zw_put (C := RX6) (T := TX6) (N := 24) hx hb hts hin6 tyX6 tyX6_ok nmX6 hown hE.1 hW mC_M rfl 15 (by decide) (hts (.fieldLink RX6 78 "UnionListModel" "requests" "I") (by decide +kernel)) (fun _ h9 => h9) rfl rfl rfl (Nat.le_of_ble_eq_true rfl) dX6_request_73 mP_15 (fun H locs hW => ?_)
          obtain ⟨m25, em25⟩ : ∃ y, y = mset m24 15 0 ((m24 15 0) + 1) := ⟨_, rfl⟩
          rw [← em25] at hW
          replace h := h m25 em25
          refine lv_aload_n hx hb dX6_request_76 rfl (lv_at hl 0 rfl) ?_
          refine lv_aload_n hx hb dX6_request_77 rfl (lv_at hl 0 rfl) ?_
          refine zw_get (C := RX6) (T := TX6) (N := 24) hx hb hts hin6 hown hE.1 hW mC_M rfl 15 (by decide) (hts (.fieldLink RX6 78 "UnionListModel" "requests" "I") (by decide +kernel)) (fun _ h9 => h9) rfl dX6_request_78 ?_
          refine lv_iconst (v := 1) hx hb dX6_request_81 (by decide) ?_
          refine lv_isub hx hb dX6_request_82 ?_
          refine zc_v (va_runV (As := [.int ((m25 15 0) - 1)]) (rest := []) ⟨hx, hb, hml, hown, hts⟩ (cX6_ask_ok l hlt D S0 g m25 ((m25 15 0) - 1) _ h) (cwV 1 hts gX6_request_X6_ask rfl rfl rfl (by decide +kernel) ⟨Nat.le_of_ble_eq_true rfl, Nat.le_of_ble_eq_true rfl⟩) (zpreV (q := (RX6, TX6, 24)) hE hs hW mC_M rfl) rfl rfl hl.1 rfl (lv_room (Nat.le_of_ble_eq_true rfl)) dX6_request_83 ⟨by show _ ≤ 0; omega, by show _ ≤ 8 * (0); omega⟩) hW (fun m27 H locs h hW => ?_)
          refine W.widen (k := 0) (n := 8 * (0)) (by omega) (by omega) ?_
          refine lv_aload_n hx hb dX6_request_86 rfl (lv_at hl 0 rfl) ?_
          refine zw_get (C := RX6) (T := TX6) (N := 24) hx hb hts hin6 hown hE.1 hW mC_M rfl 15 (by decide) (hts (.fieldLink RX6 78 "UnionListModel" "requests" "I") (by decide +kernel)) (fun _ h9 => h9) rfl dX6_request_87 ?_
          refine lv_iconst (v := 1) hx hb dX6_request_90 (by decide) ?_
          refine lv_isub hx hb dX6_request_91 ?_
          refine W.widen (k := 0) (n := 8 * (0)) (by omega) (by omega) ?_
          exact (z_iret hx hb hr hlocks hW h dX6_request_92)
        · replace h := h.2 c_20
          refine lv_iconst (v := (-1)) hx hb dX6_request_44 (by decide) ?_
          refine W.widen (k := 0) (n := 8 * (0)) (by omega) (by omega) ?_
          exact (z_iret hx hb hr hlocks hW h dX6_request_45)
      · replace h := h.1 c_17
        refine lv_iconst (v := 2) hx hb dX6_request_33 (by decide) ?_
        refine lv_goto (tgt := 38) hx hb dX6_request_34 (by decide) ?_
        refine zc_i (va_runV (As := [.int 2]) (rest := []) ⟨hx, hb, hml, hown, hts⟩ (cX6_holds_ok l hlt D S0 g m15 2 _ h) (cwV 1 hts gX6_request_X6_holds rfl rfl rfl (by decide +kernel) ⟨Nat.le_of_ble_eq_true rfl, Nat.le_of_ble_eq_true rfl⟩) (zpreV (q := (RX6, TX6, 24)) hE hs hW mC_M rfl) rfl rfl hl.1 rfl (lv_room (Nat.le_of_ble_eq_true rfl)) dX6_request_38 ⟨by show _ ≤ 0; omega, by show _ ≤ 8 * (0); omega⟩) hW (fun r28 m29 H locs h hW => ?_)
        obtain ⟨h, hz_r28⟩ := h
        refine W.widen (k := 0) (n := 8 * (0)) (by omega) (by omega) ?_
        refine lv_if_eq (tgt := 46) hx hb dX6_request_41 (by decide) (fun c_30 => ?_) (fun c_30 => ?_)
        · replace h := h.1 c_30
          refine lv_aload_n hx hb dX6_request_46 rfl (lv_at hl 0 rfl) ?_
          refine zw_get (C := RX6) (T := TX6) (N := 24) hx hb hts hin6 hown hE.1 hW mC_M rfl 8 (by decide) (hts (.fieldLink RX6 31 "UnionListModel" "whose" "[I") (by decide +kernel)) (fun _ h9 => h9) rfl dX6_request_47 ?_
          refine lv_aload_n hx hb dX6_request_50 rfl (lv_at hl 0 rfl) ?_
          refine zw_get (C := RX6) (T := TX6) (N := 24) hx hb hts hin6 hown hE.1 hW mC_M rfl 15 (by decide) (hts (.fieldLink RX6 78 "UnionListModel" "requests" "I") (by decide +kernel)) (fun _ h9 => h9) rfl dX6_request_51 ?_
          refine lv_iload_n hx hb dX6_request_54 rfl (lv_at hl 1 rfl) ?_
          obtain ⟨hb_31, h⟩ := h
          refine zw_iast hx hb hE.1 hW mC_8 hb_31 dX6_request_55 mP_8 (fun H locs hW => ?_)
          obtain ⟨m32, em32⟩ : ∃ y, y = mset m29 8 (m29 15 0).toNatClampNeg p1 := ⟨_, rfl⟩
          rw [← em32] at hW
          replace h := h m32 em32
          refine lv_aload_n hx hb dX6_request_56 rfl (lv_at hl 0 rfl) ?_
          refine zw_get (C := RX6) (T := TX6) (N := 24) hx hb hts hin6 hown hE.1 hW mC_M rfl 9 (by decide) (hts (.fieldLink RX6 34 "UnionListModel" "wanted" "[I") (by decide +kernel)) (fun _ h9 => h9) rfl dX6_request_57 ?_
          refine lv_aload_n hx hb dX6_request_60 rfl (lv_at hl 0 rfl) ?_
          refine zw_get (C := RX6) (T := TX6) (N := 24) hx hb hts hin6 hown hE.1 hW mC_M rfl 15 (by decide) (hts (.fieldLink RX6 78 "UnionListModel" "requests" "I") (by decide +kernel)) (fun _ h9 => h9) rfl dX6_request_61 ?_
          refine lv_iload_n hx hb dX6_request_64 rfl (lv_at hl 2 rfl) ?_
          obtain ⟨hb_33, h⟩ := h
          refine zw_iast hx hb hE.1 hW mC_9 hb_33 dX6_request_65 mP_9 (fun H locs hW => ?_)
          obtain ⟨m34, em34⟩ : ∃ y, y = mset m32 9 (m32 15 0).toNatClampNeg p2 := ⟨_, rfl⟩
          rw [← em34] at hW
          replace h := h m34 em34
          refine lv_aload_n hx hb dX6_request_66 rfl (lv_at hl 0 rfl) ?_
          refine lv_dup hx hb dX6_request_67 rfl ?_
          refine zw_get (C := RX6) (T := TX6) (N := 24) hx hb hts hin6 hown hE.1 hW mC_M rfl 15 (by decide) (hts (.fieldLink RX6 78 "UnionListModel" "requests" "I") (by decide +kernel)) (fun _ h9 => h9) rfl dX6_request_68 ?_
          refine lv_iconst (v := 1) hx hb dX6_request_71 (by decide) ?_
          refine lv_iadd hx hb dX6_request_72 ?_
          refine zw_put (C := RX6) (T := TX6) (N := 24) hx hb hts hin6 tyX6 tyX6_ok nmX6 hown hE.1 hW mC_M rfl 15 (by decide) (hts (.fieldLink RX6 78 "UnionListModel" "requests" "I") (by decide +kernel)) (fun _ h9 => h9) rfl rfl rfl (Nat.le_of_ble_eq_true rfl) dX6_request_73 mP_15 (fun H locs hW => ?_)
          obtain ⟨m35, em35⟩ : ∃ y, y = mset m34 15 0 ((m34 15 0) + 1) := ⟨_, rfl⟩
          rw [← em35] at hW
          replace h := h m35 em35
          refine lv_aload_n hx hb dX6_request_76 rfl (lv_at hl 0 rfl) ?_
          refine lv_aload_n hx hb dX6_request_77 rfl (lv_at hl 0 rfl) ?_
          refine zw_get (C := RX6) (T := TX6) (N := 24) hx hb hts hin6 hown hE.1 hW mC_M rfl 15 (by decide) (hts (.fieldLink RX6 78 "UnionListModel" "requests" "I") (by decide +kernel)) (fun _ h9 => h9) rfl dX6_request_78 ?_
          refine lv_iconst (v := 1) hx hb dX6_request_81 (by decide) ?_
          refine lv_isub hx hb dX6_request_82 ?_
          refine zc_v (va_runV (As := [.int ((m35 15 0) - 1)]) (rest := []) ⟨hx, hb, hml, hown, hts⟩ (cX6_ask_ok l hlt D S0 g m35 ((m35 15 0) - 1) _ h) (cwV 1 hts gX6_request_X6_ask rfl rfl rfl (by decide +kernel) ⟨Nat.le_of_ble_eq_true rfl, Nat.le_of_ble_eq_true rfl⟩) (zpreV (q := (RX6, TX6, 24)) hE hs hW mC_M rfl) rfl rfl hl.1 rfl (lv_room (Nat.le_of_ble_eq_true rfl)) dX6_request_83 ⟨by show _ ≤ 0; omega, by show _ ≤ 8 * (0); omega⟩) hW (fun m37 H locs h hW => ?_)
          refine W.widen (k := 0) (n := 8 * (0)) (by omega) (by omega) ?_
          refine lv_aload_n hx hb dX6_request_86 rfl (lv_at hl 0 rfl) ?_
          refine zw_get (C := RX6) (T := TX6) (N := 24) hx hb hts hin6 hown hE.1 hW mC_M rfl 15 (by decide) (hts (.fieldLink RX6 78 "UnionListModel" "requests" "I") (by decide +kernel)) (fun _ h9 => h9) rfl dX6_request_87 ?_
          refine lv_iconst (v := 1) hx hb dX6_request_90 (by decide) ?_
          refine lv_isub hx hb dX6_request_91 ?_
          refine W.widen (k := 0) (n := 8 * (0)) (by omega) (by omega) ?_
          exact (z_iret hx hb hr hlocks hW h dX6_request_92)
        · replace h := h.2 c_30
          refine lv_iconst (v := (-1)) hx hb dX6_request_44 (by decide) ?_
          refine W.widen (k := 0) (n := 8 * (0)) (by omega) (by omega) ?_
          exact (z_iret hx hb hr hlocks hW h dX6_request_45)
    · replace h := h.1 c_16
      refine lv_iconst (v := 1) hx hb dX6_request_20 (by decide) ?_
      refine lv_goto (tgt := 38) hx hb dX6_request_21 (by decide) ?_
      refine zc_i (va_runV (As := [.int 1]) (rest := []) ⟨hx, hb, hml, hown, hts⟩ (cX6_holds_ok l hlt D S0 g m15 1 _ h) (cwV 1 hts gX6_request_X6_holds rfl rfl rfl (by decide +kernel) ⟨Nat.le_of_ble_eq_true rfl, Nat.le_of_ble_eq_true rfl⟩) (zpreV (q := (RX6, TX6, 24)) hE hs hW mC_M rfl) rfl rfl hl.1 rfl (lv_room (Nat.le_of_ble_eq_true rfl)) dX6_request_38 ⟨by show _ ≤ 0; omega, by show _ ≤ 8 * (0); omega⟩) hW (fun r38 m39 H locs h hW => ?_)
      obtain ⟨h, hz_r38⟩ := h
      refine W.widen (k := 0) (n := 8 * (0)) (by omega) (by omega) ?_
      refine lv_if_eq (tgt := 46) hx hb dX6_request_41 (by decide) (fun c_40 => ?_) (fun c_40 => ?_)
      · replace h := h.1 c_40
        refine lv_aload_n hx hb dX6_request_46 rfl (lv_at hl 0 rfl) ?_
        refine zw_get (C := RX6) (T := TX6) (N := 24) hx hb hts hin6 hown hE.1 hW mC_M rfl 8 (by decide) (hts (.fieldLink RX6 31 "UnionListModel" "whose" "[I") (by decide +kernel)) (fun _ h9 => h9) rfl dX6_request_47 ?_
        refine lv_aload_n hx hb dX6_request_50 rfl (lv_at hl 0 rfl) ?_
        refine zw_get (C := RX6) (T := TX6) (N := 24) hx hb hts hin6 hown hE.1 hW mC_M rfl 15 (by decide) (hts (.fieldLink RX6 78 "UnionListModel" "requests" "I") (by decide +kernel)) (fun _ h9 => h9) rfl dX6_request_51 ?_
        refine lv_iload_n hx hb dX6_request_54 rfl (lv_at hl 1 rfl) ?_
        obtain ⟨hb_41, h⟩ := h
        refine zw_iast hx hb hE.1 hW mC_8 hb_41 dX6_request_55 mP_8 (fun H locs hW => ?_)
        obtain ⟨m42, em42⟩ : ∃ y, y = mset m39 8 (m39 15 0).toNatClampNeg p1 := ⟨_, rfl⟩
        rw [← em42] at hW
        replace h := h m42 em42
        refine lv_aload_n hx hb dX6_request_56 rfl (lv_at hl 0 rfl) ?_
        refine zw_get (C := RX6) (T := TX6) (N := 24) hx hb hts hin6 hown hE.1 hW mC_M rfl 9 (by decide) (hts (.fieldLink RX6 34 "UnionListModel" "wanted" "[I") (by decide +kernel)) (fun _ h9 => h9) rfl dX6_request_57 ?_
        refine lv_aload_n hx hb dX6_request_60 rfl (lv_at hl 0 rfl) ?_
        refine zw_get (C := RX6) (T := TX6) (N := 24) hx hb hts hin6 hown hE.1 hW mC_M rfl 15 (by decide) (hts (.fieldLink RX6 78 "UnionListModel" "requests" "I") (by decide +kernel)) (fun _ h9 => h9) rfl dX6_request_61 ?_
        refine lv_iload_n hx hb dX6_request_64 rfl (lv_at hl 2 rfl) ?_
        obtain ⟨hb_43, h⟩ := h
        refine zw_iast hx hb hE.1 hW mC_9 hb_43 dX6_request_65 mP_9 (fun H locs hW => ?_)
        obtain ⟨m44, em44⟩ : ∃ y, y = mset m42 9 (m42 15 0).toNatClampNeg p2 := ⟨_, rfl⟩
        rw [← em44] at hW
        replace h := h m44 em44
        refine lv_aload_n hx hb dX6_request_66 rfl (lv_at hl 0 rfl) ?_
        refine lv_dup hx hb dX6_request_67 rfl ?_
        refine zw_get (C := RX6) (T := TX6) (N := 24) hx hb hts hin6 hown hE.1 hW mC_M rfl 15 (by decide) (hts (.fieldLink RX6 78 "UnionListModel" "requests" "I") (by decide +kernel)) (fun _ h9 => h9) rfl dX6_request_68 ?_
        refine lv_iconst (v := 1) hx hb dX6_request_71 (by decide) ?_
        refine lv_iadd hx hb dX6_request_72 ?_
        refine zw_put (C := RX6) (T := TX6) (N := 24) hx hb hts hin6 tyX6 tyX6_ok nmX6 hown hE.1 hW mC_M rfl 15 (by decide) (hts (.fieldLink RX6 78 "UnionListModel" "requests" "I") (by decide +kernel)) (fun _ h9 => h9) rfl rfl rfl (Nat.le_of_ble_eq_true rfl) dX6_request_73 mP_15 (fun H locs hW => ?_)
        obtain ⟨m45, em45⟩ : ∃ y, y = mset m44 15 0 ((m44 15 0) + 1) := ⟨_, rfl⟩
        rw [← em45] at hW
        replace h := h m45 em45
        refine lv_aload_n hx hb dX6_request_76 rfl (lv_at hl 0 rfl) ?_
        refine lv_aload_n hx hb dX6_request_77 rfl (lv_at hl 0 rfl) ?_
        refine zw_get (C := RX6) (T := TX6) (N := 24) hx hb hts hin6 hown hE.1 hW mC_M rfl 15 (by decide) (hts (.fieldLink RX6 78 "UnionListModel" "requests" "I") (by decide +kernel)) (fun _ h9 => h9) rfl dX6_request_78 ?_
        refine lv_iconst (v := 1) hx hb dX6_request_81 (by decide) ?_
        refine lv_isub hx hb dX6_request_82 ?_
        refine zc_v (va_runV (As := [.int ((m45 15 0) - 1)]) (rest := []) ⟨hx, hb, hml, hown, hts⟩ (cX6_ask_ok l hlt D S0 g m45 ((m45 15 0) - 1) _ h) (cwV 1 hts gX6_request_X6_ask rfl rfl rfl (by decide +kernel) ⟨Nat.le_of_ble_eq_true rfl, Nat.le_of_ble_eq_true rfl⟩) (zpreV (q := (RX6, TX6, 24)) hE hs hW mC_M rfl) rfl rfl hl.1 rfl (lv_room (Nat.le_of_ble_eq_true rfl)) dX6_request_83 ⟨by show _ ≤ 0; omega, by show _ ≤ 8 * (0); omega⟩) hW (fun m47 H locs h hW => ?_)
        refine W.widen (k := 0) (n := 8 * (0)) (by omega) (by omega) ?_
        refine lv_aload_n hx hb dX6_request_86 rfl (lv_at hl 0 rfl) ?_
        refine zw_get (C := RX6) (T := TX6) (N := 24) hx hb hts hin6 hown hE.1 hW mC_M rfl 15 (by decide) (hts (.fieldLink RX6 78 "UnionListModel" "requests" "I") (by decide +kernel)) (fun _ h9 => h9) rfl dX6_request_87 ?_
        refine lv_iconst (v := 1) hx hb dX6_request_90 (by decide) ?_
        refine lv_isub hx hb dX6_request_91 ?_
        refine W.widen (k := 0) (n := 8 * (0)) (by omega) (by omega) ?_
        exact (z_iret hx hb hr hlocks hW h dX6_request_92)
      · replace h := h.2 c_40
        refine lv_iconst (v := (-1)) hx hb dX6_request_44 (by decide) ?_
        refine W.widen (k := 0) (n := 8 * (0)) (by omega) (by omega) ?_
        exact (z_iret hx hb hr hlocks hW h dX6_request_45)
