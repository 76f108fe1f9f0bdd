def wL_act_64 (S0 : Nat) (Q : Int32 → kS → Prop) (x1 : Int32) (x2 : Int32) (x3 : Int32) (x4 : Int32) (x5 : Int32) (n : Nat) (k : kS) : Prop := (n ≤ 601 ∧ ((x3 = 0 → (wL_low S0 k x2 13 (fun r12 k13 => ((r12 = 0 → (wL_low S0 k13 (x2 >>> (8 &&& 31)) 17 (fun r28 k29 => ((r28 = 0 → (n + 2 ≤ 601 ∧ (wL_added S0 k29 6 (-1) (fun r37 k38 => Q r37 k38)))) ∧ (¬ r28 = 0 → (wL_low S0 k29 (x2 >>> (9 &&& 31)) 2 (fun r31 k32 => (n + 2 ≤ 601 ∧ (wL_added S0 k32 6 r31 (fun r34 k35 => Q r34 k35)))))))))) ∧ (¬ r12 = 0 → (wL_low S0 k13 (x2 >>> (4 &&& 31)) 6 (fun r15 k16 => (wL_low S0 k16 (x2 >>> (8 &&& 31)) 17 (fun r17 k18 => ((r17 = 0 → (n + 2 ≤ 601 ∧ (wL_added S0 k18 r15 (-1) (fun r26 k27 => Q r26 k27)))) ∧ (¬ r17 = 0 → (wL_low S0 k18 (x2 >>> (9 &&& 31)) 2 (fun r20 k21 => (n + 2 ≤ 601 ∧ (wL_added S0 k21 r15 r20 (fun r23 k24 => Q r23 k24)))))))))))))))) ∧ (x3 = 1 → (wL_low S0 k x2 13 (fun r40 k41 => ((r40 = 0 → (wL_low S0 k41 (x2 >>> (8 &&& 31)) 17 (fun r56 k57 => ((r56 = 0 → (n + 2 ≤ 601 ∧ (wL_asked S0 k57 (-1) 8 (fun r65 k66 => Q r65 k66)))) ∧ (¬ r56 = 0 → (wL_low S0 k57 (x2 >>> (9 &&& 31)) 2 (fun r59 k60 => (n + 2 ≤ 601 ∧ (wL_asked S0 k60 (-1) r59 (fun r62 k63 => Q r62 k63)))))))))) ∧ (¬ r40 = 0 → (wL_low S0 k41 (x2 >>> (4 &&& 31)) 6 (fun r43 k44 => (wL_low S0 k44 (x2 >>> (8 &&& 31)) 17 (fun r45 k46 => ((r45 = 0 → (n + 2 ≤ 601 ∧ (wL_asked S0 k46 r43 8 (fun r54 k55 => Q r54 k55)))) ∧ (¬ r45 = 0 → (wL_low S0 k46 (x2 >>> (9 &&& 31)) 2 (fun r48 k49 => (n + 2 ≤ 601 ∧ (wL_asked S0 k49 r43 r48 (fun r51 k52 => Q r51 k52)))))))))))))))) ∧ (x3 = 2 → (wL_low S0 k x2 13 (fun r68 k69 => ((r68 = 0 → (wL_low S0 k69 (x2 >>> (8 &&& 31)) 17 (fun r84 k85 => ((r84 = 0 → (n + 2 ≤ 601 ∧ (wL_asked S0 k85 (-1) 8 (fun r93 k94 => Q r93 k94)))) ∧ (¬ r84 = 0 → (wL_low S0 k85 (x2 >>> (9 &&& 31)) 2 (fun r87 k88 => (n + 2 ≤ 601 ∧ (wL_asked S0 k88 (-1) r87 (fun r90 k91 => Q r90 k91)))))))))) ∧ (¬ r68 = 0 → (wL_low S0 k69 (x2 >>> (4 &&& 31)) 6 (fun r71 k72 => (wL_low S0 k72 (x2 >>> (8 &&& 31)) 17 (fun r73 k74 => ((r73 = 0 → (n + 2 ≤ 601 ∧ (wL_asked S0 k74 r71 8 (fun r82 k83 => Q r82 k83)))) ∧ (¬ r73 = 0 → (wL_low S0 k74 (x2 >>> (9 &&& 31)) 2 (fun r76 k77 => (n + 2 ≤ 601 ∧ (wL_asked S0 k77 r71 r76 (fun r79 k80 => Q r79 k80)))))))))))))))) ∧ (x3 = 3 → (n + 2 ≤ 601 ∧ (wL_harmed S0 k x4 (fun r97 k98 => Q r97 k98)))) ∧ (x3 = 4 → (n + 2 ≤ 601 ∧ (wL_looked S0 k x4 (fun r101 k102 => Q r101 k102)))) ∧ (x3 = 5 → (n + 2 ≤ 601 ∧ (wL_mended S0 k x4 (fun r105 k106 => Q r105 k106)))) ∧ (x3 = 6 → (n + 2 ≤ 601 ∧ (wL_renewed S0 k x5 (fun r109 k110 => Q r109 k110)))) ∧ (x3 = 7 → (n + 2 ≤ 601 ∧ (wL_recalled S0 k x5 (fun r113 k114 => Q r113 k114)))) ∧ (x3 = 8 → (n + 2 ≤ 601 ∧ (wL_back S0 k x5 (fun r117 k118 => Q r117 k118)))) ∧ (x3 = 9 → (wX5_settle S0 k (fun r120 k121 => Q r120 k121))) ∧ ((¬ x3 = 0 ∧ ¬ x3 = 1 ∧ ¬ x3 = 2 ∧ ¬ x3 = 3 ∧ ¬ x3 = 4 ∧ ¬ x3 = 5 ∧ ¬ x3 = 6 ∧ ¬ x3 = 7 ∧ ¬ x3 = 8 ∧ ¬ x3 = 9) → (wL_low S0 k x2 23 (fun r122 k123 => ((r122 = 0 → (wL_low S0 k123 (x2 >>> (5 &&& 31)) 2 (fun r138 k139 => (n + 601 ≤ 601 ∧ (wL_passed S0 k139 (101 * r138) (fun r141 k142 => Q r141 k142)))))) ∧ (¬ r122 = 0 → (wL_low S0 k123 (x1 >>> (7 &&& 31)) 3 (fun r125 k126 => ((r125 = 0 → (wL_low S0 k126 (x2 >>> (5 &&& 31)) 30 (fun r133 k134 => (n + 601 ≤ 601 ∧ (wL_passed S0 k134 (1 + r133) (fun r136 k137 => Q r136 k137)))))) ∧ (¬ r125 = 0 → (wL_low S0 k126 (x2 >>> (5 &&& 31)) 5 (fun r128 k129 => (n + 601 ≤ 601 ∧ (wL_passed S0 k129 (1 + r128) (fun r131 k132 => Q r131 k132))))))))))))))))
set_option maxHeartbeats 40000000 in
set_option maxRecDepth 100000 in
theorem tL_act_64 (l : Launch) (hlt : l.stackTraces = false) (D : zD) (S0 : Nat) (g : zF) {p : Program} {e : Env} {s : State} {m : MethodId} {args : Array Value} {below : List Frame} {meth : Method} {c : Code} (hx : p.tables.exec = Jvm.exec) (hb : c.code = cL_act) (hr : meth.sig.returnType = (some .int)) (hml : c.maxLocals = 6) (hown : s.vm.findClass yL_act.cls = some m.cls) (hts : ∀ w ∈ wsL_act, w.before args s = true) (hlocks : meth.locks = false) (hs : S0 ≤ s.heap.size) (hE : zE D S0 s) (Q : Int32 → kS → Prop) : ∀ (x1 : Int32) (x2 : Int32) (x3 : Int32) (x4 : Int32) (x5 : Int32) (n : Nat) (k : kS) (H : Heap) (locs : List Loc) (ls : Array Slot), wL_act_64 S0 Q x1 x2 x3 x4 x5 n k → zW D S0 (xR D S0 g k k) s.heap H locs → lv_has ls 6 [(0, .ref S0), (1, .int x1), (2, .int x2), (3, .int x3), (4, .int x4), (5, .int x5)] → W p l e { frames := 9, cells := 601, slots := 8 * 601, locals := 207 } s m args below meth c H locs n (8 * n) (MQ below (va_Qi Q (zB D S0 (fun u => xR D S0 g u u)) (zA S0)) args s 601 (8 * 601) (zA S0)) (F0 m 64 ls []) := by
  intro x1 x2 x3 x4 x5 n k H locs ls h hW hl
  unfold wL_act_64 at h
  obtain ⟨hb_n, h⟩ := h
  refine lv_iload_n hx hb dL_act_64 rfl (lv_at hl 3 rfl) ?_
  refine (Classical.em (x3 = 0)).elim (fun c_11 => ?_) (fun c_11 => ?_)
  · replace h := h.1 c_11
    refine lv_tableIn (tgt := 120) (off := 55) hx hb dL_act_65 (by rw [c_11]; decide) (by rw [c_11]; decide) (by rw [c_11]; rfl) (by decide) ?_
    refine lv_aload_n hx hb dL_act_120 rfl (lv_at hl 0 rfl) ?_
    refine lv_iload_n hx hb dL_act_121 rfl (lv_at hl 2 rfl) ?_
    refine lv_bipush (v := 13) hx hb dL_act_122 (by decide) ?_
    refine zc_i (va_runS (As := [.int x2, .int 13]) (rest := [.ref S0]) ⟨hx, hb, hml, hown, hts⟩ (cL_low_ok l hlt D S0 g k x2 13 _ h) (va_cwS 2 hts gL_act_L_low rfl rfl rfl (by decide +kernel) ⟨Nat.le_of_ble_eq_true rfl, Nat.le_of_ble_eq_true rfl⟩) (zpreS hE hs hW) rfl rfl hl.1 rfl (lv_room (Nat.le_of_ble_eq_true rfl)) dL_act_124 ⟨by show _ ≤ 601; omega, by show _ ≤ 8 * 601; omega⟩) hW (fun r12 k13 H locs h hW => ?_)
    replace hW := xW_start hW
    refine W.widen (k := n) (n := 8 * (n)) (by omega) (by omega) ?_
    refine lv_if_ne (tgt := 135) hx hb dL_act_127 (by decide) (fun c_14 => ?_) (fun c_14 => ?_)
    · replace h := h.2 c_14
      refine lv_iload_n hx hb dL_act_135 rfl (lv_at hl 2 rfl) ?_
      refine lv_iconst (v := 4) hx hb dL_act_136 (by decide) ?_
      refine lv_ishr hx hb dL_act_137 ?_
      refine lv_bipush (v := 6) hx hb dL_act_138 (by decide) ?_
      refine zc_i (va_runS (As := [.int (x2 >>> (4 &&& 31)), .int 6]) (rest := [.ref S0]) ⟨hx, hb, hml, hown, hts⟩ (cL_low_ok l hlt D S0 g k13 (x2 >>> (4 &&& 31)) 6 _ h) (va_cwS 2 hts gL_act_L_low rfl rfl rfl (by decide +kernel) ⟨Nat.le_of_ble_eq_true rfl, Nat.le_of_ble_eq_true rfl⟩) (zpreS hE hs hW) rfl rfl hl.1 rfl (lv_room (Nat.le_of_ble_eq_true rfl)) dL_act_140 ⟨by show _ ≤ 601; omega, by show _ ≤ 8 * 601; omega⟩) hW (fun r15 k16 H locs h hW => ?_)
      replace hW := xW_start hW
      refine W.widen (k := n) (n := 8 * (n)) (by omega) (by omega) ?_
      refine lv_iload_n hx hb dL_act_143 rfl (lv_at hl 2 rfl) ?_
      refine lv_bipush (v := 8) hx hb dL_act_144 (by decide) ?_
      refine lv_ishr hx hb dL_act_146 ?_
      refine lv_bipush (v := 17) hx hb dL_act_147 (by decide) ?_
      refine zc_i (va_runS (As := [.int (x2 >>> (8 &&& 31)), .int 17]) (rest := [.int r15, .ref S0]) ⟨hx, hb, hml, hown, hts⟩ (cL_low_ok l hlt D S0 g k16 (x2 >>> (8 &&& 31)) 17 _ h) (va_cwS 2 hts gL_act_L_low rfl rfl rfl (by decide +kernel) ⟨Nat.le_of_ble_eq_true rfl, Nat.le_of_ble_eq_true rfl⟩) (zpreS hE hs hW) rfl rfl hl.1 rfl (lv_room (Nat.le_of_ble_eq_true rfl)) dL_act_149 ⟨by show _ ≤ 601; omega, by show _ ≤ 8 * 601; omega⟩) hW (fun r17 k18 H locs h hW => ?_)
      replace hW := xW_start hW
      refine W.widen (k := n) (n := 8 * (n)) (by omega) (by omega) ?_
      refine lv_if_ne (tgt := 159) hx hb dL_act_152 (by decide) (fun c_19 => ?_) (fun c_19 => ?_)
      · replace h := h.2 c_19
        refine lv_iload_n hx hb dL_act_159 rfl (lv_at hl 2 rfl) ?_
        refine lv_bipush (v := 9) hx hb dL_act_160 (by decide) ?_
        refine lv_ishr hx hb dL_act_162 ?_
        refine lv_iconst (v := 2) hx hb dL_act_163 (by decide) ?_
        refine zc_i (va_runS (As := [.int (x2 >>> (9 &&& 31)), .int 2]) (rest := [.int r15, .ref S0]) ⟨hx, hb, hml, hown, hts⟩ (cL_low_ok l hlt D S0 g k18 (x2 >>> (9 &&& 31)) 2 _ h) (va_cwS 2 hts gL_act_L_low rfl rfl rfl (by decide +kernel) ⟨Nat.le_of_ble_eq_true rfl, Nat.le_of_ble_eq_true rfl⟩) (zpreS hE hs hW) rfl rfl hl.1 rfl (lv_room (Nat.le_of_ble_eq_true rfl)) dL_act_164 ⟨by show _ ≤ 601; omega, by show _ ≤ 8 * 601; omega⟩) hW (fun r20 k21 H locs h hW => ?_)
        replace hW := xW_start hW
        refine W.widen (k := n) (n := 8 * (n)) (by omega) (by omega) ?_
        obtain ⟨hb_22, h⟩ := h
        refine zc_i (vx_runSW (As := [.ref S0, .int r15, .int r20]) (rest := []) ⟨hx, hb, hml, hown, hts⟩ (cL_added_ok l hlt D S0 g k21 r15 r20 _ h) (vx_cwSW 3 hts gL_act_L_added rfl rfl rfl (by decide +kernel) ⟨Nat.le_of_ble_eq_true rfl, Nat.le_of_ble_eq_true rfl⟩) (zpreS hE hs hW) rfl rfl hl.1 rfl (lv_room (Nat.le_of_ble_eq_true rfl)) dL_act_167 ⟨by show _ ≤ 601; omega, by show _ ≤ 8 * 601; omega⟩) hW (fun r23 k24 H locs h hW => ?_)
        replace hW := xW_start hW
        refine W.widen (k := n + 2) (n := 8 * (n + 2)) (by omega) (by omega) ?_
        refine W.widen (k := 601) (n := 8 * 601) (by omega) (by omega) ?_
        exact z_iret hx hb hr hlocks hW h dL_act_170
      · replace h := h.1 c_19
        refine lv_iconst (v := (-1)) hx hb dL_act_155 (by decide) ?_
        refine lv_goto (tgt := 167) hx hb dL_act_156 (by decide) ?_
        obtain ⟨hb_25, h⟩ := h
        refine zc_i (vx_runSW (As := [.ref S0, .int r15, .int (-1)]) (rest := []) ⟨hx, hb, hml, hown, hts⟩ (cL_added_ok l hlt D S0 g k18 r15 (-1) _ h) (vx_cwSW 3 hts gL_act_L_added rfl rfl rfl (by decide +kernel) ⟨Nat.le_of_ble_eq_true rfl, Nat.le_of_ble_eq_true rfl⟩) (zpreS hE hs hW) rfl rfl hl.1 rfl (lv_room (Nat.le_of_ble_eq_true rfl)) dL_act_167 ⟨by show _ ≤ 601; omega, by show _ ≤ 8 * 601; omega⟩) hW (fun r26 k27 H locs h hW => ?_)
        replace hW := xW_start hW
        refine W.widen (k := n + 2) (n := 8 * (n + 2)) (by omega) (by omega) ?_
        refine W.widen (k := 601) (n := 8 * 601) (by omega) (by omega) ?_
        exact z_iret hx hb hr hlocks hW h dL_act_170
    · replace h := h.1 c_14
      refine lv_bipush (v := 6) hx hb dL_act_130 (by decide) ?_
      refine lv_goto (tgt := 143) hx hb dL_act_132 (by decide) ?_
      refine lv_iload_n hx hb dL_act_143 rfl (lv_at hl 2 rfl) ?_
      refine lv_bipush (v := 8) hx hb dL_act_144 (by decide) ?_
      refine lv_ishr hx hb dL_act_146 ?_
      refine lv_bipush (v := 17) hx hb dL_act_147 (by decide) ?_
      refine zc_i (va_runS (As := [.int (x2 >>> (8 &&& 31)), .int 17]) (rest := [.int 6, .ref S0]) ⟨hx, hb, hml, hown, hts⟩ (cL_low_ok l hlt D S0 g k13 (x2 >>> (8 &&& 31)) 17 _ h) (va_cwS 2 hts gL_act_L_low rfl rfl rfl (by decide +kernel) ⟨Nat.le_of_ble_eq_true rfl, Nat.le_of_ble_eq_true rfl⟩) (zpreS hE hs hW) rfl rfl hl.1 rfl (lv_room (Nat.le_of_ble_eq_true rfl)) dL_act_149 ⟨by show _ ≤ 601; omega, by show _ ≤ 8 * 601; omega⟩) hW (fun r28 k29 H locs h hW => ?_)
      replace hW := xW_start hW
      refine W.widen (k := n) (n := 8 * (n)) (by omega) (by omega) ?_
      refine lv_if_ne (tgt := 159) hx hb dL_act_152 (by decide) (fun c_30 => ?_) (fun c_30 => ?_)
      · replace h := h.2 c_30
        refine lv_iload_n hx hb dL_act_159 rfl (lv_at hl 2 rfl) ?_
        refine lv_bipush (v := 9) hx hb dL_act_160 (by decide) ?_
        refine lv_ishr hx hb dL_act_162 ?_
        refine lv_iconst (v := 2) hx hb dL_act_163 (by decide) ?_
        refine zc_i (va_runS (As := [.int (x2 >>> (9 &&& 31)), .int 2]) (rest := [.int 6, .ref S0]) ⟨hx, hb, hml, hown, hts⟩ (cL_low_ok l hlt D S0 g k29 (x2 >>> (9 &&& 31)) 2 _ h) (va_cwS 2 hts gL_act_L_low rfl rfl rfl (by decide +kernel) ⟨Nat.le_of_ble_eq_true rfl, Nat.le_of_ble_eq_true rfl⟩) (zpreS hE hs hW) rfl rfl hl.1 rfl (lv_room (Nat.le_of_ble_eq_true rfl)) dL_act_164 ⟨by show _ ≤ 601; omega, by show _ ≤ 8 * 601; omega⟩) hW (fun r31 k32 H locs h hW => ?_)
        replace hW := xW_start hW
        refine W.widen (k := n) (n := 8 * (n)) (by omega) (by omega) ?_
        obtain ⟨hb_33, h⟩ := h
        refine zc_i (vx_runSW (As := [.ref S0, .int 6, .int r31]) (rest := []) ⟨hx, hb, hml, hown, hts⟩ (cL_added_ok l hlt D S0 g k32 6 r31 _ h) (vx_cwSW 3 hts gL_act_L_added rfl rfl rfl (by decide +kernel) ⟨Nat.le_of_ble_eq_true rfl, Nat.le_of_ble_eq_true rfl⟩) (zpreS hE hs hW) rfl rfl hl.1 rfl (lv_room (Nat.le_of_ble_eq_true rfl)) dL_act_167 ⟨by show _ ≤ 601; omega, by show _ ≤ 8 * 601; omega⟩) hW (fun r34 k35 H locs h hW => ?_)
        replace hW := xW_start hW
        refine W.widen (k := n + 2) (n := 8 * (n + 2)) (by omega) (by omega) ?_
        refine W.widen (k := 601) (n := 8 * 601) (by omega) (by omega) ?_
        exact z_iret hx hb hr hlocks hW h dL_act_170
      · replace h := h.1 c_30
        refine lv_iconst (v := (-1)) hx hb dL_act_155 (by decide) ?_
        refine lv_goto (tgt := 167) hx hb dL_act_156 (by decide) ?_
        obtain ⟨hb_36, h⟩ := h
        refine zc_i (vx_runSW (As := [.ref S0, .int 6, .int (-1)]) (rest := []) ⟨hx, hb, hml, hown, hts⟩ (cL_added_ok l hlt D S0 g k29 6 (-1) _ h) (vx_cwSW 3 hts gL_act_L_added rfl rfl rfl (by decide +kernel) ⟨Nat.le_of_ble_eq_true rfl, Nat.le_of_ble_eq_true rfl⟩) (zpreS hE hs hW) rfl rfl hl.1 rfl (lv_room (Nat.le_of_ble_eq_true rfl)) dL_act_167 ⟨by show _ ≤ 601; omega, by show _ ≤ 8 * 601; omega⟩) hW (fun r37 k38 H locs h hW => ?_)
        replace hW := xW_start hW
        refine W.widen (k := n + 2) (n := 8 * (n + 2)) (by omega) (by omega) ?_
        refine W.widen (k := 601) (n := 8 * 601) (by omega) (by omega) ?_
        exact z_iret hx hb hr hlocks hW h dL_act_170
  replace h := h.2
  refine (Classical.em (x3 = 1)).elim (fun c_39 => ?_) (fun c_39 => ?_)
  · replace h := h.1 c_39
    refine lv_tableIn (tgt := 171) (off := 106) hx hb dL_act_65 (by rw [c_39]; decide) (by rw [c_39]; decide) (by rw [c_39]; rfl) (by decide) ?_
    refine lv_aload_n hx hb dL_act_171 rfl (lv_at hl 0 rfl) ?_
    refine lv_iload_n hx hb dL_act_172 rfl (lv_at hl 2 rfl) ?_
    refine lv_bipush (v := 13) hx hb dL_act_173 (by decide) ?_
    refine zc_i (va_runS (As := [.int x2, .int 13]) (rest := [.ref S0]) ⟨hx, hb, hml, hown, hts⟩ (cL_low_ok l hlt D S0 g k x2 13 _ h) (va_cwS 2 hts gL_act_L_low rfl rfl rfl (by decide +kernel) ⟨Nat.le_of_ble_eq_true rfl, Nat.le_of_ble_eq_true rfl⟩) (zpreS hE hs hW) rfl rfl hl.1 rfl (lv_room (Nat.le_of_ble_eq_true rfl)) dL_act_175 ⟨by show _ ≤ 601; omega, by show _ ≤ 8 * 601; omega⟩) hW (fun r40 k41 H locs h hW => ?_)
    replace hW := xW_start hW
    refine W.widen (k := n) (n := 8 * (n)) (by omega) (by omega) ?_
    refine lv_if_ne (tgt := 185) hx hb dL_act_178 (by decide) (fun c_42 => ?_) (fun c_42 => ?_)
    · replace h := h.2 c_42
      refine lv_iload_n hx hb dL_act_185 rfl (lv_at hl 2 rfl) ?_
      refine lv_iconst (v := 4) hx hb dL_act_186 (by decide) ?_
      refine lv_ishr hx hb dL_act_187 ?_
      refine lv_bipush (v := 6) hx hb dL_act_188 (by decide) ?_
      refine zc_i (va_runS (As := [.int (x2 >>> (4 &&& 31)), .int 6]) (rest := [.ref S0]) ⟨hx, hb, hml, hown, hts⟩ (cL_low_ok l hlt D S0 g k41 (x2 >>> (4 &&& 31)) 6 _ h) (va_cwS 2 hts gL_act_L_low rfl rfl rfl (by decide +kernel) ⟨Nat.le_of_ble_eq_true rfl, Nat.le_of_ble_eq_true rfl⟩) (zpreS hE hs hW) rfl rfl hl.1 rfl (lv_room (Nat.le_of_ble_eq_true rfl)) dL_act_190 ⟨by show _ ≤ 601; omega, by show _ ≤ 8 * 601; omega⟩) hW (fun r43 k44 H locs h hW => ?_)
      replace hW := xW_start hW
      refine W.widen (k := n) (n := 8 * (n)) (by omega) (by omega) ?_
      refine lv_iload_n hx hb dL_act_193 rfl (lv_at hl 2 rfl) ?_
      refine lv_bipush (v := 8) hx hb dL_act_194 (by decide) ?_
      refine lv_ishr hx hb dL_act_196 ?_
      refine lv_bipush (v := 17) hx hb dL_act_197 (by decide) ?_
      refine zc_i (va_runS (As := [.int (x2 >>> (8 &&& 31)), .int 17]) (rest := [.int r43, .ref S0]) ⟨hx, hb, hml, hown, hts⟩ (cL_low_ok l hlt D S0 g k44 (x2 >>> (8 &&& 31)) 17 _ h) (va_cwS 2 hts gL_act_L_low rfl rfl rfl (by decide +kernel) ⟨Nat.le_of_ble_eq_true rfl, Nat.le_of_ble_eq_true rfl⟩) (zpreS hE hs hW) rfl rfl hl.1 rfl (lv_room (Nat.le_of_ble_eq_true rfl)) dL_act_199 ⟨by show _ ≤ 601; omega, by show _ ≤ 8 * 601; omega⟩) hW (fun r45 k46 H locs h hW => ?_)
      replace hW := xW_start hW
      refine W.widen (k := n) (n := 8 * (n)) (by omega) (by omega) ?_
      refine lv_if_ne (tgt := 210) hx hb dL_act_202 (by decide) (fun c_47 => ?_) (fun c_47 => ?_)
      · replace h := h.2 c_47
        refine lv_iload_n hx hb dL_act_210 rfl (lv_at hl 2 rfl) ?_
        refine lv_bipush (v := 9) hx hb dL_act_211 (by decide) ?_
        refine lv_ishr hx hb dL_act_213 ?_
        refine lv_iconst (v := 2) hx hb dL_act_214 (by decide) ?_
        refine zc_i (va_runS (As := [.int (x2 >>> (9 &&& 31)), .int 2]) (rest := [.int r43, .ref S0]) ⟨hx, hb, hml, hown, hts⟩ (cL_low_ok l hlt D S0 g k46 (x2 >>> (9 &&& 31)) 2 _ h) (va_cwS 2 hts gL_act_L_low rfl rfl rfl (by decide +kernel) ⟨Nat.le_of_ble_eq_true rfl, Nat.le_of_ble_eq_true rfl⟩) (zpreS hE hs hW) rfl rfl hl.1 rfl (lv_room (Nat.le_of_ble_eq_true rfl)) dL_act_215 ⟨by show _ ≤ 601; omega, by show _ ≤ 8 * 601; omega⟩) hW (fun r48 k49 H locs h hW => ?_)
        replace hW := xW_start hW
        refine W.widen (k := n) (n := 8 * (n)) (by omega) (by omega) ?_
        obtain ⟨hb_50, h⟩ := h
        refine zc_i (vx_runSW (As := [.ref S0, .int r43, .int r48]) (rest := []) ⟨hx, hb, hml, hown, hts⟩ (cL_asked_ok l hlt D S0 g k49 r43 r48 _ h) (vx_cwSW 3 hts gL_act_L_asked rfl rfl rfl (by decide +kernel) ⟨Nat.le_of_ble_eq_true rfl, Nat.le_of_ble_eq_true rfl⟩) (zpreS hE hs hW) rfl rfl hl.1 rfl (lv_room (Nat.le_of_ble_eq_true rfl)) dL_act_218 ⟨by show _ ≤ 601; omega, by show _ ≤ 8 * 601; omega⟩) hW (fun r51 k52 H locs h hW => ?_)
        replace hW := xW_start hW
        refine W.widen (k := n + 2) (n := 8 * (n + 2)) (by omega) (by omega) ?_
        refine W.widen (k := 601) (n := 8 * 601) (by omega) (by omega) ?_
        exact z_iret hx hb hr hlocks hW h dL_act_221
      · replace h := h.1 c_47
        refine lv_bipush (v := 8) hx hb dL_act_205 (by decide) ?_
        refine lv_goto (tgt := 218) hx hb dL_act_207 (by decide) ?_
        obtain ⟨hb_53, h⟩ := h
        refine zc_i (vx_runSW (As := [.ref S0, .int r43, .int 8]) (rest := []) ⟨hx, hb, hml, hown, hts⟩ (cL_asked_ok l hlt D S0 g k46 r43 8 _ h) (vx_cwSW 3 hts gL_act_L_asked rfl rfl rfl (by decide +kernel) ⟨Nat.le_of_ble_eq_true rfl, Nat.le_of_ble_eq_true rfl⟩) (zpreS hE hs hW) rfl rfl hl.1 rfl (lv_room (Nat.le_of_ble_eq_true rfl)) dL_act_218 ⟨by show _ ≤ 601; omega, by show _ ≤ 8 * 601; omega⟩) hW (fun r54 k55 H locs h hW => ?_)
        replace hW := xW_start hW
        refine W.widen (k := n + 2) (n := 8 * (n + 2)) (by omega) (by omega) ?_
        refine W.widen (k := 601) (n := 8 * 601) (by omega) (by omega) ?_
        exact z_iret hx hb hr hlocks hW h dL_act_221
    · replace h := h.1 c_42
      refine lv_iconst (v := (-1)) hx hb dL_act_181 (by decide) ?_
      refine lv_goto (tgt := 193) hx hb dL_act_182 (by decide) ?_
      refine lv_iload_n hx hb dL_act_193 rfl (lv_at hl 2 rfl) ?_
      refine lv_bipush (v := 8) hx hb dL_act_194 (by decide) ?_
      refine lv_ishr hx hb dL_act_196 ?_
      refine lv_bipush (v := 17) hx hb dL_act_197 (by decide) ?_
      refine zc_i (va_runS (As := [.int (x2 >>> (8 &&& 31)), .int 17]) (rest := [.int (-1), .ref S0]) ⟨hx, hb, hml, hown, hts⟩ (cL_low_ok l hlt D S0 g k41 (x2 >>> (8 &&& 31)) 17 _ h) (va_cwS 2 hts gL_act_L_low rfl rfl rfl (by decide +kernel) ⟨Nat.le_of_ble_eq_true rfl, Nat.le_of_ble_eq_true rfl⟩) (zpreS hE hs hW) rfl rfl hl.1 rfl (lv_room (Nat.le_of_ble_eq_true rfl)) dL_act_199 ⟨by show _ ≤ 601; omega, by show _ ≤ 8 * 601; omega⟩) hW (fun r56 k57 H locs h hW => ?_)
      replace hW := xW_start hW
      refine W.widen (k := n) (n := 8 * (n)) (by omega) (by omega) ?_
      refine lv_if_ne (tgt := 210) hx hb dL_act_202 (by decide) (fun c_58 => ?_) (fun c_58 => ?_)
      · replace h := h.2 c_58
        refine lv_iload_n hx hb dL_act_210 rfl (lv_at hl 2 rfl) ?_
        refine lv_bipush (v := 9) hx hb dL_act_211 (by decide) ?_
        refine lv_ishr hx hb dL_act_213 ?_
        refine lv_iconst (v := 2) hx hb dL_act_214 (by decide) ?_
        refine zc_i (va_runS (As := [.int (x2 >>> (9 &&& 31)), .int 2]) (rest := [.int (-1), .ref S0]) ⟨hx, hb, hml, hown, hts⟩ (cL_low_ok l hlt D S0 g k57 (x2 >>> (9 &&& 31)) 2 _ h) (va_cwS 2 hts gL_act_L_low rfl rfl rfl (by decide +kernel) ⟨Nat.le_of_ble_eq_true rfl, Nat.le_of_ble_eq_true rfl⟩) (zpreS hE hs hW) rfl rfl hl.1 rfl (lv_room (Nat.le_of_ble_eq_true rfl)) dL_act_215 ⟨by show _ ≤ 601; omega, by show _ ≤ 8 * 601; omega⟩) hW (fun r59 k60 H locs h hW => ?_)
        replace hW := xW_start hW
        refine W.widen (k := n) (n := 8 * (n)) (by omega) (by omega) ?_
        obtain ⟨hb_61, h⟩ := h
        refine zc_i (vx_runSW (As := [.ref S0, .int (-1), .int r59]) (rest := []) ⟨hx, hb, hml, hown, hts⟩ (cL_asked_ok l hlt D S0 g k60 (-1) r59 _ h) (vx_cwSW 3 hts gL_act_L_asked rfl rfl rfl (by decide +kernel) ⟨Nat.le_of_ble_eq_true rfl, Nat.le_of_ble_eq_true rfl⟩) (zpreS hE hs hW) rfl rfl hl.1 rfl (lv_room (Nat.le_of_ble_eq_true rfl)) dL_act_218 ⟨by show _ ≤ 601; omega, by show _ ≤ 8 * 601; omega⟩) hW (fun r62 k63 H locs h hW => ?_)
        replace hW := xW_start hW
        refine W.widen (k := n + 2) (n := 8 * (n + 2)) (by omega) (by omega) ?_
        refine W.widen (k := 601) (n := 8 * 601) (by omega) (by omega) ?_
        exact z_iret hx hb hr hlocks hW h dL_act_221
      · replace h := h.1 c_58
        refine lv_bipush (v := 8) hx hb dL_act_205 (by decide) ?_
        refine lv_goto (tgt := 218) hx hb dL_act_207 (by decide) ?_
        obtain ⟨hb_64, h⟩ := h
        refine zc_i (vx_runSW (As := [.ref S0, .int (-1), .int 8]) (rest := []) ⟨hx, hb, hml, hown, hts⟩ (cL_asked_ok l hlt D S0 g k57 (-1) 8 _ h) (vx_cwSW 3 hts gL_act_L_asked rfl rfl rfl (by decide +kernel) ⟨Nat.le_of_ble_eq_true rfl, Nat.le_of_ble_eq_true rfl⟩) (zpreS hE hs hW) rfl rfl hl.1 rfl (lv_room (Nat.le_of_ble_eq_true rfl)) dL_act_218 ⟨by show _ ≤ 601; omega, by show _ ≤ 8 * 601; omega⟩) hW (fun r65 k66 H locs h hW => ?_)
        replace hW := xW_start hW
        refine W.widen (k := n + 2) (n := 8 * (n + 2)) (by omega) (by omega) ?_
        refine W.widen (k := 601) (n := 8 * 601) (by omega) (by omega) ?_
        exact z_iret hx hb hr hlocks hW h dL_act_221
  replace h := h.2
  refine (Classical.em (x3 = 2)).elim (fun c_67 => ?_) (fun c_67 => ?_)
  · replace h := h.1 c_67
    refine lv_tableIn (tgt := 171) (off := 106) hx hb dL_act_65 (by rw [c_67]; decide) (by rw [c_67]; decide) (by rw [c_67]; rfl) (by decide) ?_
    refine lv_aload_n hx hb dL_act_171 rfl (lv_at hl 0 rfl) ?_
    refine lv_iload_n hx hb dL_act_172 rfl (lv_at hl 2 rfl) ?_
    refine lv_bipush (v := 13) hx hb dL_act_173 (by decide) ?_
    refine zc_i (va_runS (As := [.int x2, .int 13]) (rest := [.ref S0]) ⟨hx, hb, hml, hown, hts⟩ (cL_low_ok l hlt D S0 g k x2 13 _ h) (va_cwS 2 hts gL_act_L_low rfl rfl rfl (by decide +kernel) ⟨Nat.le_of_ble_eq_true rfl, Nat.le_of_ble_eq_true rfl⟩) (zpreS hE hs hW) rfl rfl hl.1 rfl (lv_room (Nat.le_of_ble_eq_true rfl)) dL_act_175 ⟨by show _ ≤ 601; omega, by show _ ≤ 8 * 601; omega⟩) hW (fun r68 k69 H locs h hW => ?_)
    replace hW := xW_start hW
    refine W.widen (k := n) (n := 8 * (n)) (by omega) (by omega) ?_
    refine lv_if_ne (tgt := 185) hx hb dL_act_178 (by decide) (fun c_70 => ?_) (fun c_70 => ?_)
    · replace h := h.2 c_70
      refine lv_iload_n hx hb dL_act_185 rfl (lv_at hl 2 rfl) ?_
      refine lv_iconst (v := 4) hx hb dL_act_186 (by decide) ?_
      refine lv_ishr hx hb dL_act_187 ?_
      refine lv_bipush (v := 6) hx hb dL_act_188 (by decide) ?_
      refine zc_i (va_runS (As := [.int (x2 >>> (4 &&& 31)), .int 6]) (rest := [.ref S0]) ⟨hx, hb, hml, hown, hts⟩ (cL_low_ok l hlt D S0 g k69 (x2 >>> (4 &&& 31)) 6 _ h) (va_cwS 2 hts gL_act_L_low rfl rfl rfl (by decide +kernel) ⟨Nat.le_of_ble_eq_true rfl, Nat.le_of_ble_eq_true rfl⟩) (zpreS hE hs hW) rfl rfl hl.1 rfl (lv_room (Nat.le_of_ble_eq_true rfl)) dL_act_190 ⟨by show _ ≤ 601; omega, by show _ ≤ 8 * 601; omega⟩) hW (fun r71 k72 H locs h hW => ?_)
      replace hW := xW_start hW
      refine W.widen (k := n) (n := 8 * (n)) (by omega) (by omega) ?_
      refine lv_iload_n hx hb dL_act_193 rfl (lv_at hl 2 rfl) ?_
      refine lv_bipush (v := 8) hx hb dL_act_194 (by decide) ?_
      refine lv_ishr hx hb dL_act_196 ?_
      refine lv_bipush (v := 17) hx hb dL_act_197 (by decide) ?_
      refine zc_i (va_runS (As := [.int (x2 >>> (8 &&& 31)), .int 17]) (rest := [.int r71, .ref S0]) ⟨hx, hb, hml, hown, hts⟩ (cL_low_ok l hlt D S0 g k72 (x2 >>> (8 &&& 31)) 17 _ h) (va_cwS 2 hts gL_act_L_low rfl rfl rfl (by decide +kernel) ⟨Nat.le_of_ble_eq_true rfl, Nat.le_of_ble_eq_true rfl⟩) (zpreS hE hs hW) rfl rfl hl.1 rfl (lv_room (Nat.le_of_ble_eq_true rfl)) dL_act_199 ⟨by show _ ≤ 601; omega, by show _ ≤ 8 * 601; omega⟩) hW (fun r73 k74 H locs h hW => ?_)
      replace hW := xW_start hW
      refine W.widen (k := n) (n := 8 * (n)) (by omega) (by omega) ?_
      refine lv_if_ne (tgt := 210) hx hb dL_act_202 (by decide) (fun c_75 => ?_) (fun c_75 => ?_)
      · replace h := h.2 c_75
        refine lv_iload_n hx hb dL_act_210 rfl (lv_at hl 2 rfl) ?_
        refine lv_bipush (v := 9) hx hb dL_act_211 (by decide) ?_
        refine lv_ishr hx hb dL_act_213 ?_
        refine lv_iconst (v := 2) hx hb dL_act_214 (by decide) ?_
        refine zc_i (va_runS (As := [.int (x2 >>> (9 &&& 31)), .int 2]) (rest := [.int r71, .ref S0]) ⟨hx, hb, hml, hown, hts⟩ (cL_low_ok l hlt D S0 g k74 (x2 >>> (9 &&& 31)) 2 _ h) (va_cwS 2 hts gL_act_L_low rfl rfl rfl (by decide +kernel) ⟨Nat.le_of_ble_eq_true rfl, Nat.le_of_ble_eq_true rfl⟩) (zpreS hE hs hW) rfl rfl hl.1 rfl (lv_room (Nat.le_of_ble_eq_true rfl)) dL_act_215 ⟨by show _ ≤ 601; omega, by show _ ≤ 8 * 601; omega⟩) hW (fun r76 k77 H locs h hW => ?_)
        replace hW := xW_start hW
        refine W.widen (k := n) (n := 8 * (n)) (by omega) (by omega) ?_
        obtain ⟨hb_78, h⟩ := h
        refine zc_i (vx_runSW (As := [.ref S0, .int r71, .int r76]) (rest := []) ⟨hx, hb, hml, hown, hts⟩ (cL_asked_ok l hlt D S0 g k77 r71 r76 _ h) (vx_cwSW 3 hts gL_act_L_asked rfl rfl rfl (by decide +kernel) ⟨Nat.le_of_ble_eq_true rfl, Nat.le_of_ble_eq_true rfl⟩) (zpreS hE hs hW) rfl rfl hl.1 rfl (lv_room (Nat.le_of_ble_eq_true rfl)) dL_act_218 ⟨by show _ ≤ 601; omega, by show _ ≤ 8 * 601; omega⟩) hW (fun r79 k80 H locs h hW => ?_)
        replace hW := xW_start hW
        refine W.widen (k := n + 2) (n := 8 * (n + 2)) (by omega) (by omega) ?_
        refine W.widen (k := 601) (n := 8 * 601) (by omega) (by omega) ?_
        exact z_iret hx hb hr hlocks hW h dL_act_221
      · replace h := h.1 c_75
        refine lv_bipush (v := 8) hx hb dL_act_205 (by decide) ?_
        refine lv_goto (tgt := 218) hx hb dL_act_207 (by decide) ?_
        obtain ⟨hb_81, h⟩ := h
        refine zc_i (vx_runSW (As := [.ref S0, .int r71, .int 8]) (rest := []) ⟨hx, hb, hml, hown, hts⟩ (cL_asked_ok l hlt D S0 g k74 r71 8 _ h) (vx_cwSW 3 hts gL_act_L_asked rfl rfl rfl (by decide +kernel) ⟨Nat.le_of_ble_eq_true rfl, Nat.le_of_ble_eq_true rfl⟩) (zpreS hE hs hW) rfl rfl hl.1 rfl (lv_room (Nat.le_of_ble_eq_true rfl)) dL_act_218 ⟨by show _ ≤ 601; omega, by show _ ≤ 8 * 601; omega⟩) hW (fun r82 k83 H locs h hW => ?_)
        replace hW := xW_start hW
        refine W.widen (k := n + 2) (n := 8 * (n + 2)) (by omega) (by omega) ?_
        refine W.widen (k := 601) (n := 8 * 601) (by omega) (by omega) ?_
        exact z_iret hx hb hr hlocks hW h dL_act_221
    · replace h := h.1 c_70
      refine lv_iconst (v := (-1)) hx hb dL_act_181 (by decide) ?_
      refine lv_goto (tgt := 193) hx hb dL_act_182 (by decide) ?_
      refine lv_iload_n hx hb dL_act_193 rfl (lv_at hl 2 rfl) ?_
      refine lv_bipush (v := 8) hx hb dL_act_194 (by decide) ?_
      refine lv_ishr hx hb dL_act_196 ?_
      refine lv_bipush (v := 17) hx hb dL_act_197 (by decide) ?_
      refine zc_i (va_runS (As := [.int (x2 >>> (8 &&& 31)), .int 17]) (rest := [.int (-1), .ref S0]) ⟨hx, hb, hml, hown, hts⟩ (cL_low_ok l hlt D S0 g k69 (x2 >>> (8 &&& 31)) 17 _ h) (va_cwS 2 hts gL_act_L_low rfl rfl rfl (by decide +kernel) ⟨Nat.le_of_ble_eq_true rfl, Nat.le_of_ble_eq_true rfl⟩) (zpreS hE hs hW) rfl rfl hl.1 rfl (lv_room (Nat.le_of_ble_eq_true rfl)) dL_act_199 ⟨by show _ ≤ 601; omega, by show _ ≤ 8 * 601; omega⟩) hW (fun r84 k85 H locs h hW => ?_)
      replace hW := xW_start hW
      refine W.widen (k := n) (n := 8 * (n)) (by omega) (by omega) ?_
      refine lv_if_ne (tgt := 210) hx hb dL_act_202 (by decide) (fun c_86 => ?_) (fun c_86 => ?_)
      · replace h := h.2 c_86
        refine lv_iload_n hx hb dL_act_210 rfl (lv_at hl 2 rfl) ?_
        refine lv_bipush (v := 9) hx hb dL_act_211 (by decide) ?_
        refine lv_ishr hx hb dL_act_213 ?_
        refine lv_iconst (v := 2) hx hb dL_act_214 (by decide) ?_
        refine zc_i (va_runS (As := [.int (x2 >>> (9 &&& 31)), .int 2]) (rest := [.int (-1), .ref S0]) ⟨hx, hb, hml, hown, hts⟩ (cL_low_ok l hlt D S0 g k85 (x2 >>> (9 &&& 31)) 2 _ h) (va_cwS 2 hts gL_act_L_low rfl rfl rfl (by decide +kernel) ⟨Nat.le_of_ble_eq_true rfl, Nat.le_of_ble_eq_true rfl⟩) (zpreS hE hs hW) rfl rfl hl.1 rfl (lv_room (Nat.le_of_ble_eq_true rfl)) dL_act_215 ⟨by show _ ≤ 601; omega, by show _ ≤ 8 * 601; omega⟩) hW (fun r87 k88 H locs h hW => ?_)
        replace hW := xW_start hW
        refine W.widen (k := n) (n := 8 * (n)) (by omega) (by omega) ?_
        obtain ⟨hb_89, h⟩ := h
        refine zc_i (vx_runSW (As := [.ref S0, .int (-1), .int r87]) (rest := []) ⟨hx, hb, hml, hown, hts⟩ (cL_asked_ok l hlt D S0 g k88 (-1) r87 _ h) (vx_cwSW 3 hts gL_act_L_asked rfl rfl rfl (by decide +kernel) ⟨Nat.le_of_ble_eq_true rfl, Nat.le_of_ble_eq_true rfl⟩) (zpreS hE hs hW) rfl rfl hl.1 rfl (lv_room (Nat.le_of_ble_eq_true rfl)) dL_act_218 ⟨by show _ ≤ 601; omega, by show _ ≤ 8 * 601; omega⟩) hW (fun r90 k91 H locs h hW => ?_)
        replace hW := xW_start hW
        refine W.widen (k := n + 2) (n := 8 * (n + 2)) (by omega) (by omega) ?_
        refine W.widen (k := 601) (n := 8 * 601) (by omega) (by omega) ?_
        exact z_iret hx hb hr hlocks hW h dL_act_221
      · replace h := h.1 c_86
        refine lv_bipush (v := 8) hx hb dL_act_205 (by decide) ?_
        refine lv_goto (tgt := 218) hx hb dL_act_207 (by decide) ?_
        obtain ⟨hb_92, h⟩ := h
        refine zc_i (vx_runSW (As := [.ref S0, .int (-1), .int 8]) (rest := []) ⟨hx, hb, hml, hown, hts⟩ (cL_asked_ok l hlt D S0 g k85 (-1) 8 _ h) (vx_cwSW 3 hts gL_act_L_asked rfl rfl rfl (by decide +kernel) ⟨Nat.le_of_ble_eq_true rfl, Nat.le_of_ble_eq_true rfl⟩) (zpreS hE hs hW) rfl rfl hl.1 rfl (lv_room (Nat.le_of_ble_eq_true rfl)) dL_act_218 ⟨by show _ ≤ 601; omega, by show _ ≤ 8 * 601; omega⟩) hW (fun r93 k94 H locs h hW => ?_)
        replace hW := xW_start hW
        refine W.widen (k := n + 2) (n := 8 * (n + 2)) (by omega) (by omega) ?_
        refine W.widen (k := 601) (n := 8 * 601) (by omega) (by omega) ?_
        exact z_iret hx hb hr hlocks hW h dL_act_221
  replace h := h.2
  refine (Classical.em (x3 = 3)).elim (fun c_95 => ?_) (fun c_95 => ?_)
  · replace h := h.1 c_95
    refine lv_tableIn (tgt := 222) (off := 157) hx hb dL_act_65 (by rw [c_95]; decide) (by rw [c_95]; decide) (by rw [c_95]; rfl) (by decide) ?_
    refine lv_aload_n hx hb dL_act_222 rfl (lv_at hl 0 rfl) ?_
    refine lv_iload hx hb dL_act_223 (lv_at hl 4 rfl) ?_
    obtain ⟨hb_96, h⟩ := h
    refine zc_i (vx_runSW (As := [.ref S0, .int x4]) (rest := []) ⟨hx, hb, hml, hown, hts⟩ (cL_harmed_ok l hlt D S0 g k x4 _ h) (vx_cwSW 2 hts gL_act_L_harmed rfl rfl rfl (by decide +kernel) ⟨Nat.le_of_ble_eq_true rfl, Nat.le_of_ble_eq_true rfl⟩) (zpreS hE hs hW) rfl rfl hl.1 rfl (lv_room (Nat.le_of_ble_eq_true rfl)) dL_act_225 ⟨by show _ ≤ 601; omega, by show _ ≤ 8 * 601; omega⟩) hW (fun r97 k98 H locs h hW => ?_)
    replace hW := xW_start hW
    refine W.widen (k := n + 2) (n := 8 * (n + 2)) (by omega) (by omega) ?_
    refine W.widen (k := 601) (n := 8 * 601) (by omega) (by omega) ?_
    exact z_iret hx hb hr hlocks hW h dL_act_228
  replace h := h.2
  refine (Classical.em (x3 = 4)).elim (fun c_99 => ?_) (fun c_99 => ?_)
  · replace h := h.1 c_99
    refine lv_tableIn (tgt := 229) (off := 164) hx hb dL_act_65 (by rw [c_99]; decide) (by rw [c_99]; decide) (by rw [c_99]; rfl) (by decide) ?_
    refine lv_aload_n hx hb dL_act_229 rfl (lv_at hl 0 rfl) ?_
    refine lv_iload hx hb dL_act_230 (lv_at hl 4 rfl) ?_
    obtain ⟨hb_100, h⟩ := h
    refine zc_i (vx_runSW (As := [.ref S0, .int x4]) (rest := []) ⟨hx, hb, hml, hown, hts⟩ (cL_looked_ok l hlt D S0 g k x4 _ h) (vx_cwSW 2 hts gL_act_L_looked rfl rfl rfl (by decide +kernel) ⟨Nat.le_of_ble_eq_true rfl, Nat.le_of_ble_eq_true rfl⟩) (zpreS hE hs hW) rfl rfl hl.1 rfl (lv_room (Nat.le_of_ble_eq_true rfl)) dL_act_232 ⟨by show _ ≤ 601; omega, by show _ ≤ 8 * 601; omega⟩) hW (fun r101 k102 H locs h hW => ?_)
    replace hW := xW_start hW
    refine W.widen (k := n + 2) (n := 8 * (n + 2)) (by omega) (by omega) ?_
    refine W.widen (k := 601) (n := 8 * 601) (by omega) (by omega) ?_
    exact z_iret hx hb hr hlocks hW h dL_act_235
  replace h := h.2
  refine (Classical.em (x3 = 5)).elim (fun c_103 => ?_) (fun c_103 => ?_)
  · replace h := h.1 c_103
    refine lv_tableIn (tgt := 236) (off := 171) hx hb dL_act_65 (by rw [c_103]; decide) (by rw [c_103]; decide) (by rw [c_103]; rfl) (by decide) ?_
    refine lv_aload_n hx hb dL_act_236 rfl (lv_at hl 0 rfl) ?_
    refine lv_iload hx hb dL_act_237 (lv_at hl 4 rfl) ?_
    obtain ⟨hb_104, h⟩ := h
    refine zc_i (vx_runSW (As := [.ref S0, .int x4]) (rest := []) ⟨hx, hb, hml, hown, hts⟩ (cL_mended_ok l hlt D S0 g k x4 _ h) (vx_cwSW 2 hts gL_act_L_mended rfl rfl rfl (by decide +kernel) ⟨Nat.le_of_ble_eq_true rfl, Nat.le_of_ble_eq_true rfl⟩) (zpreS hE hs hW) rfl rfl hl.1 rfl (lv_room (Nat.le_of_ble_eq_true rfl)) dL_act_239 ⟨by show _ ≤ 601; omega, by show _ ≤ 8 * 601; omega⟩) hW (fun r105 k106 H locs h hW => ?_)
    replace hW := xW_start hW
    refine W.widen (k := n + 2) (n := 8 * (n + 2)) (by omega) (by omega) ?_
    refine W.widen (k := 601) (n := 8 * 601) (by omega) (by omega) ?_
    exact z_iret hx hb hr hlocks hW h dL_act_242
  replace h := h.2
  refine (Classical.em (x3 = 6)).elim (fun c_107 => ?_) (fun c_107 => ?_)
  · replace h := h.1 c_107
    refine lv_tableIn (tgt := 243) (off := 178) hx hb dL_act_65 (by rw [c_107]; decide) (by rw [c_107]; decide) (by rw [c_107]; rfl) (by decide) ?_
    refine lv_aload_n hx hb dL_act_243 rfl (lv_at hl 0 rfl) ?_
    refine lv_iload hx hb dL_act_244 (lv_at hl 5 rfl) ?_
    obtain ⟨hb_108, h⟩ := h
    refine zc_i (vx_runSW (As := [.ref S0, .int x5]) (rest := []) ⟨hx, hb, hml, hown, hts⟩ (cL_renewed_ok l hlt D S0 g k x5 _ h) (vx_cwSW 2 hts gL_act_L_renewed rfl rfl rfl (by decide +kernel) ⟨Nat.le_of_ble_eq_true rfl, Nat.le_of_ble_eq_true rfl⟩) (zpreS hE hs hW) rfl rfl hl.1 rfl (lv_room (Nat.le_of_ble_eq_true rfl)) dL_act_246 ⟨by show _ ≤ 601; omega, by show _ ≤ 8 * 601; omega⟩) hW (fun r109 k110 H locs h hW => ?_)
    replace hW := xW_start hW
    refine W.widen (k := n + 2) (n := 8 * (n + 2)) (by omega) (by omega) ?_
    refine W.widen (k := 601) (n := 8 * 601) (by omega) (by omega) ?_
    exact z_iret hx hb hr hlocks hW h dL_act_249
  replace h := h.2
  refine (Classical.em (x3 = 7)).elim (fun c_111 => ?_) (fun c_111 => ?_)
  · replace h := h.1 c_111
    refine lv_tableIn (tgt := 250) (off := 185) hx hb dL_act_65 (by rw [c_111]; decide) (by rw [c_111]; decide) (by rw [c_111]; rfl) (by decide) ?_
    refine lv_aload_n hx hb dL_act_250 rfl (lv_at hl 0 rfl) ?_
    refine lv_iload hx hb dL_act_251 (lv_at hl 5 rfl) ?_
    obtain ⟨hb_112, h⟩ := h
    refine zc_i (vx_runSW (As := [.ref S0, .int x5]) (rest := []) ⟨hx, hb, hml, hown, hts⟩ (cL_recalled_ok l hlt D S0 g k x5 _ h) (vx_cwSW 2 hts gL_act_L_recalled rfl rfl rfl (by decide +kernel) ⟨Nat.le_of_ble_eq_true rfl, Nat.le_of_ble_eq_true rfl⟩) (zpreS hE hs hW) rfl rfl hl.1 rfl (lv_room (Nat.le_of_ble_eq_true rfl)) dL_act_253 ⟨by show _ ≤ 601; omega, by show _ ≤ 8 * 601; omega⟩) hW (fun r113 k114 H locs h hW => ?_)
    replace hW := xW_start hW
    refine W.widen (k := n + 2) (n := 8 * (n + 2)) (by omega) (by omega) ?_
    refine W.widen (k := 601) (n := 8 * 601) (by omega) (by omega) ?_
    exact z_iret hx hb hr hlocks hW h dL_act_256
  replace h := h.2
  refine (Classical.em (x3 = 8)).elim (fun c_115 => ?_) (fun c_115 => ?_)
  · replace h := h.1 c_115
    refine lv_tableIn (tgt := 257) (off := 192) hx hb dL_act_65 (by rw [c_115]; decide) (by rw [c_115]; decide) (by rw [c_115]; rfl) (by decide) ?_
    refine lv_aload_n hx hb dL_act_257 rfl (lv_at hl 0 rfl) ?_
    refine lv_iload hx hb dL_act_258 (lv_at hl 5 rfl) ?_
    obtain ⟨hb_116, h⟩ := h
    refine zc_i (vx_runSW (As := [.ref S0, .int x5]) (rest := []) ⟨hx, hb, hml, hown, hts⟩ (cL_back_ok l hlt D S0 g k x5 _ h) (vx_cwSW 2 hts gL_act_L_back rfl rfl rfl (by decide +kernel) ⟨Nat.le_of_ble_eq_true rfl, Nat.le_of_ble_eq_true rfl⟩) (zpreS hE hs hW) rfl rfl hl.1 rfl (lv_room (Nat.le_of_ble_eq_true rfl)) dL_act_260 ⟨by show _ ≤ 601; omega, by show _ ≤ 8 * 601; omega⟩) hW (fun r117 k118 H locs h hW => ?_)
    replace hW := xW_start hW
    refine W.widen (k := n + 2) (n := 8 * (n + 2)) (by omega) (by omega) ?_
    refine W.widen (k := 601) (n := 8 * 601) (by omega) (by omega) ?_
    exact z_iret hx hb hr hlocks hW h dL_act_263
  replace h := h.2
  refine (Classical.em (x3 = 9)).elim (fun c_119 => ?_) (fun c_119 => ?_)
  · replace h := h.1 c_119
    refine lv_tableIn (tgt := 264) (off := 199) hx hb dL_act_65 (by rw [c_119]; decide) (by rw [c_119]; decide) (by rw [c_119]; rfl) (by decide) ?_
    refine lv_aload_n hx hb dL_act_264 rfl (lv_at hl 0 rfl) ?_
    refine zc_i (va_runV (As := []) (rest := []) ⟨hx, hb, hml, hown, hts⟩ (cX5_settle_ok l hlt D S0 g k _ h) (cwV 0 hts gL_act_X5_settle rfl rfl rfl (by decide +kernel) ⟨Nat.le_of_ble_eq_true rfl, Nat.le_of_ble_eq_true rfl⟩) (zpreV (q := (RX5, TX5, 7)) hE hs hW xC_U rfl) rfl rfl hl.1 rfl (lv_room (Nat.le_of_ble_eq_true rfl)) dL_act_265 ⟨by show _ ≤ 601; omega, by show _ ≤ 8 * 601; omega⟩) hW (fun r120 k121 H locs h hW => ?_)
    replace hW := xW_start hW
    refine W.widen (k := n) (n := 8 * (n)) (by omega) (by omega) ?_
    refine W.widen (k := 601) (n := 8 * 601) (by omega) (by omega) ?_
    exact z_iret hx hb hr hlocks hW h dL_act_268
  replace h := h.2
  replace h := h ⟨c_11, c_39, c_67, c_95, c_99, c_103, c_107, c_111, c_115, c_119⟩
  refine lv_tableOut (tgt := 269) hx hb dL_act_65 (tab_out (lo := 0) (hi := 9) (fun i h1 h2 => by rcases (show i = 0 ∨ i = 1 ∨ i = 2 ∨ i = 3 ∨ i = 4 ∨ i = 5 ∨ i = 6 ∨ i = 7 ∨ i = 8 ∨ i = 9 by omega) with rfl | rfl | rfl | rfl | rfl | rfl | rfl | rfl | rfl | rfl <;> first | exact ti_ne c_11 (by decide) | exact ti_ne c_39 (by decide) | exact ti_ne c_67 (by decide) | exact ti_ne c_95 (by decide) | exact ti_ne c_99 (by decide) | exact ti_ne c_103 (by decide) | exact ti_ne c_107 (by decide) | exact ti_ne c_111 (by decide) | exact ti_ne c_115 (by decide) | exact ti_ne c_119 (by decide))) (by decide) ?_
  refine lv_aload_n hx hb dL_act_269 rfl (lv_at hl 0 rfl) ?_
  refine lv_iload_n hx hb dL_act_270 rfl (lv_at hl 2 rfl) ?_
  refine lv_bipush (v := 23) hx hb dL_act_271 (by decide) ?_
  refine zc_i (va_runS (As := [.int x2, .int 23]) (rest := [.ref S0]) ⟨hx, hb, hml, hown, hts⟩ (cL_low_ok l hlt D S0 g k x2 23 _ h) (va_cwS 2 hts gL_act_L_low rfl rfl rfl (by decide +kernel) ⟨Nat.le_of_ble_eq_true rfl, Nat.le_of_ble_eq_true rfl⟩) (zpreS hE hs hW) rfl rfl hl.1 rfl (lv_room (Nat.le_of_ble_eq_true rfl)) dL_act_273 ⟨by show _ ≤ 601; omega, by show _ ≤ 8 * 601; omega⟩) hW (fun r122 k123 H locs h hW => ?_)
  replace hW := xW_start hW
  refine W.widen (k := n) (n := 8 * (n)) (by omega) (by omega) ?_
  refine lv_if_ne (tgt := 292) hx hb dL_act_276 (by decide) (fun c_124 => ?_) (fun c_124 => ?_)
  · replace h := h.2 c_124
    refine lv_iload_n hx hb dL_act_292 rfl (lv_at hl 1 rfl) ?_
    refine lv_bipush (v := 7) hx hb dL_act_293 (by decide) ?_
    refine lv_ishr hx hb dL_act_295 ?_
    refine lv_iconst (v := 3) hx hb dL_act_296 (by decide) ?_
    refine zc_i (va_runS (As := [.int (x1 >>> (7 &&& 31)), .int 3]) (rest := [.ref S0]) ⟨hx, hb, hml, hown, hts⟩ (cL_low_ok l hlt D S0 g k123 (x1 >>> (7 &&& 31)) 3 _ h) (va_cwS 2 hts gL_act_L_low rfl rfl rfl (by decide +kernel) ⟨Nat.le_of_ble_eq_true rfl, Nat.le_of_ble_eq_true rfl⟩) (zpreS hE hs hW) rfl rfl hl.1 rfl (lv_room (Nat.le_of_ble_eq_true rfl)) dL_act_297 ⟨by show _ ≤ 601; omega, by show _ ≤ 8 * 601; omega⟩) hW (fun r125 k126 H locs h hW => ?_)
    replace hW := xW_start hW
    refine W.widen (k := n) (n := 8 * (n)) (by omega) (by omega) ?_
    refine lv_if_ne (tgt := 316) hx hb dL_act_300 (by decide) (fun c_127 => ?_) (fun c_127 => ?_)
    · replace h := h.2 c_127
      refine lv_iconst (v := 1) hx hb dL_act_316 (by decide) ?_
      refine lv_iload_n hx hb dL_act_317 rfl (lv_at hl 2 rfl) ?_
      refine lv_iconst (v := 5) hx hb dL_act_318 (by decide) ?_
      refine lv_ishr hx hb dL_act_319 ?_
      refine lv_iconst (v := 5) hx hb dL_act_320 (by decide) ?_
      refine zc_i (va_runS (As := [.int (x2 >>> (5 &&& 31)), .int 5]) (rest := [.int 1, .ref S0]) ⟨hx, hb, hml, hown, hts⟩ (cL_low_ok l hlt D S0 g k126 (x2 >>> (5 &&& 31)) 5 _ h) (va_cwS 2 hts gL_act_L_low rfl rfl rfl (by decide +kernel) ⟨Nat.le_of_ble_eq_true rfl, Nat.le_of_ble_eq_true rfl⟩) (zpreS hE hs hW) rfl rfl hl.1 rfl (lv_room (Nat.le_of_ble_eq_true rfl)) dL_act_321 ⟨by show _ ≤ 601; omega, by show _ ≤ 8 * 601; omega⟩) hW (fun r128 k129 H locs h hW => ?_)
      replace hW := xW_start hW
      refine W.widen (k := n) (n := 8 * (n)) (by omega) (by omega) ?_
      refine lv_iadd hx hb dL_act_324 ?_
      obtain ⟨hb_130, h⟩ := h
      refine zc_i (vx_runSW (As := [.ref S0, .int (1 + r128)]) (rest := []) ⟨hx, hb, hml, hown, hts⟩ (cL_passed_ok l hlt D S0 g k129 (1 + r128) _ h) (vx_cwSW 2 hts gL_act_L_passed rfl rfl rfl (by decide +kernel) ⟨Nat.le_of_ble_eq_true rfl, Nat.le_of_ble_eq_true rfl⟩) (zpreS hE hs hW) rfl rfl hl.1 rfl (lv_room (Nat.le_of_ble_eq_true rfl)) dL_act_325 ⟨by show _ ≤ 601; omega, by show _ ≤ 8 * 601; omega⟩) hW (fun r131 k132 H locs h hW => ?_)
      replace hW := xW_start hW
      refine W.widen (k := n + 601) (n := 8 * (n + 601)) (by omega) (by omega) ?_
      refine W.widen (k := 601) (n := 8 * 601) (by omega) (by omega) ?_
      exact z_iret hx hb hr hlocks hW h dL_act_328
    · replace h := h.1 c_127
      refine lv_iconst (v := 1) hx hb dL_act_303 (by decide) ?_
      refine lv_iload_n hx hb dL_act_304 rfl (lv_at hl 2 rfl) ?_
      refine lv_iconst (v := 5) hx hb dL_act_305 (by decide) ?_
      refine lv_ishr hx hb dL_act_306 ?_
      refine lv_bipush (v := 30) hx hb dL_act_307 (by decide) ?_
      refine zc_i (va_runS (As := [.int (x2 >>> (5 &&& 31)), .int 30]) (rest := [.int 1, .ref S0]) ⟨hx, hb, hml, hown, hts⟩ (cL_low_ok l hlt D S0 g k126 (x2 >>> (5 &&& 31)) 30 _ h) (va_cwS 2 hts gL_act_L_low rfl rfl rfl (by decide +kernel) ⟨Nat.le_of_ble_eq_true rfl, Nat.le_of_ble_eq_true rfl⟩) (zpreS hE hs hW) rfl rfl hl.1 rfl (lv_room (Nat.le_of_ble_eq_true rfl)) dL_act_309 ⟨by show _ ≤ 601; omega, by show _ ≤ 8 * 601; omega⟩) hW (fun r133 k134 H locs h hW => ?_)
      replace hW := xW_start hW
      refine W.widen (k := n) (n := 8 * (n)) (by omega) (by omega) ?_
      refine lv_iadd hx hb dL_act_312 ?_
      refine lv_goto (tgt := 325) hx hb dL_act_313 (by decide) ?_
      obtain ⟨hb_135, h⟩ := h
      refine zc_i (vx_runSW (As := [.ref S0, .int (1 + r133)]) (rest := []) ⟨hx, hb, hml, hown, hts⟩ (cL_passed_ok l hlt D S0 g k134 (1 + r133) _ h) (vx_cwSW 2 hts gL_act_L_passed rfl rfl rfl (by decide +kernel) ⟨Nat.le_of_ble_eq_true rfl, Nat.le_of_ble_eq_true rfl⟩) (zpreS hE hs hW) rfl rfl hl.1 rfl (lv_room (Nat.le_of_ble_eq_true rfl)) dL_act_325 ⟨by show _ ≤ 601; omega, by show _ ≤ 8 * 601; omega⟩) hW (fun r136 k137 H locs h hW => ?_)
      replace hW := xW_start hW
      refine W.widen (k := n + 601) (n := 8 * (n + 601)) (by omega) (by omega) ?_
      refine W.widen (k := 601) (n := 8 * 601) (by omega) (by omega) ?_
      exact z_iret hx hb hr hlocks hW h dL_act_328
  · replace h := h.1 c_124
    refine lv_bipush (v := 101) hx hb dL_act_279 (by decide) ?_
    refine lv_iload_n hx hb dL_act_281 rfl (lv_at hl 2 rfl) ?_
    refine lv_iconst (v := 5) hx hb dL_act_282 (by decide) ?_
    refine lv_ishr hx hb dL_act_283 ?_
    refine lv_iconst (v := 2) hx hb dL_act_284 (by decide) ?_
    refine zc_i (va_runS (As := [.int (x2 >>> (5 &&& 31)), .int 2]) (rest := [.int 101, .ref S0]) ⟨hx, hb, hml, hown, hts⟩ (cL_low_ok l hlt D S0 g k123 (x2 >>> (5 &&& 31)) 2 _ h) (va_cwS 2 hts gL_act_L_low rfl rfl rfl (by decide +kernel) ⟨Nat.le_of_ble_eq_true rfl, Nat.le_of_ble_eq_true rfl⟩) (zpreS hE hs hW) rfl rfl hl.1 rfl (lv_room (Nat.le_of_ble_eq_true rfl)) dL_act_285 ⟨by show _ ≤ 601; omega, by show _ ≤ 8 * 601; omega⟩) hW (fun r138 k139 H locs h hW => ?_)
    replace hW := xW_start hW
    refine W.widen (k := n) (n := 8 * (n)) (by omega) (by omega) ?_
    refine lv_imul hx hb dL_act_288 ?_
    refine lv_goto (tgt := 325) hx hb dL_act_289 (by decide) ?_
    obtain ⟨hb_140, h⟩ := h
    refine zc_i (vx_runSW (As := [.ref S0, .int (101 * r138)]) (rest := []) ⟨hx, hb, hml, hown, hts⟩ (cL_passed_ok l hlt D S0 g k139 (101 * r138) _ h) (vx_cwSW 2 hts gL_act_L_passed rfl rfl rfl (by decide +kernel) ⟨Nat.le_of_ble_eq_true rfl, Nat.le_of_ble_eq_true rfl⟩) (zpreS hE hs hW) rfl rfl hl.1 rfl (lv_room (Nat.le_of_ble_eq_true rfl)) dL_act_325 ⟨by show _ ≤ 601; omega, by show _ ≤ 8 * 601; omega⟩) hW (fun r141 k142 H locs h hW => ?_)
    replace hW := xW_start hW
    refine W.widen (k := n + 601) (n := 8 * (n + 601)) (by omega) (by omega) ?_
    refine W.widen (k := 601) (n := 8 * 601) (by omega) (by omega) ?_
    exact z_iret hx hb hr hlocks hW h dL_act_328
def wL_act_32 (S0 : Nat) (Q : Int32 → kS → Prop) (x1 : Int32) (x2 : Int32) (x3 : Int32) (x4 : Int32) (n : Nat) (k : kS) : Prop := (n ≤ 601 ∧ (wL_low S0 k x2 9 (fun r6 k7 => ((r6 = 0 → (wL_low S0 k7 (x2 >>> (4 &&& 31)) 22 (fun r143 k144 => (wL_act_64 S0 Q x1 x2 x3 x4 (r143 - 1) n k144)))) ∧ (¬ r6 = 0 → (wL_low S0 k7 (x2 >>> (4 &&& 31)) 9 (fun r9 k10 => (wL_act_64 S0 Q x1 x2 x3 x4 r9 n k10))))))))
set_option maxHeartbeats 40000000 in
set_option maxRecDepth 100000 in
theorem tL_act_32 (l : Launch) (hlt : l.stackTraces = false) (D : zD) (S0 : Nat) (g : zF) {p : Program} {e : Env} {s : State} {m : MethodId} {args : Array Value} {below : List Frame} {meth : Method} {c : Code} (hx : p.tables.exec = Jvm.exec) (hb : c.code = cL_act) (hr : meth.sig.returnType = (some .int)) (hml : c.maxLocals = 6) (hown : s.vm.findClass yL_act.cls = some m.cls) (hts : ∀ w ∈ wsL_act, w.before args s = true) (hlocks : meth.locks = false) (hs : S0 ≤ s.heap.size) (hE : zE D S0 s) (Q : Int32 → kS → Prop) : ∀ (x1 : Int32) (x2 : Int32) (x3 : Int32) (x4 : Int32) (n : Nat) (k : kS) (H : Heap) (locs : List Loc) (ls : Array Slot), wL_act_32 S0 Q x1 x2 x3 x4 n k → zW D S0 (xR D S0 g k k) s.heap H locs → lv_has ls 6 [(0, .ref S0), (1, .int x1), (2, .int x2), (3, .int x3), (4, .int x4)] → W p l e { frames := 9, cells := 601, slots := 8 * 601, locals := 207 } s m args below meth c H locs n (8 * n) (MQ below (va_Qi Q (zB D S0 (fun u => xR D S0 g u u)) (zA S0)) args s 601 (8 * 601) (zA S0)) (F0 m 32 ls []) := by
  intro x1 x2 x3 x4 n k H locs ls h hW hl
  unfold wL_act_32 at h
  obtain ⟨hb_n, h⟩ := h
  refine lv_iload_n hx hb dL_act_32 rfl (lv_at hl 2 rfl) ?_
  refine lv_bipush (v := 9) hx hb dL_act_33 (by decide) ?_
  refine zc_i (va_runS (As := [.int x2, .int 9]) (rest := []) ⟨hx, hb, hml, hown, hts⟩ (cL_low_ok l hlt D S0 g k x2 9 _ h) (va_cwS 2 hts gL_act_L_low rfl rfl rfl (by decide +kernel) ⟨Nat.le_of_ble_eq_true rfl, Nat.le_of_ble_eq_true rfl⟩) (zpreS hE hs hW) rfl rfl hl.1 rfl (lv_room (Nat.le_of_ble_eq_true rfl)) dL_act_35 ⟨by show _ ≤ 601; omega, by show _ ≤ 8 * 601; omega⟩) hW (fun r6 k7 H locs h hW => ?_)
  replace hW := xW_start hW
  refine W.widen (k := n) (n := 8 * (n)) (by omega) (by omega) ?_
  refine lv_if_ne (tgt := 54) hx hb dL_act_38 (by decide) (fun c_8 => ?_) (fun c_8 => ?_)
  · replace h := h.2 c_8
    refine lv_iload_n hx hb dL_act_54 rfl (lv_at hl 2 rfl) ?_
    refine lv_iconst (v := 4) hx hb dL_act_55 (by decide) ?_
    refine lv_ishr hx hb dL_act_56 ?_
    refine lv_bipush (v := 9) hx hb dL_act_57 (by decide) ?_
    refine zc_i (va_runS (As := [.int (x2 >>> (4 &&& 31)), .int 9]) (rest := []) ⟨hx, hb, hml, hown, hts⟩ (cL_low_ok l hlt D S0 g k7 (x2 >>> (4 &&& 31)) 9 _ h) (va_cwS 2 hts gL_act_L_low rfl rfl rfl (by decide +kernel) ⟨Nat.le_of_ble_eq_true rfl, Nat.le_of_ble_eq_true rfl⟩) (zpreS hE hs hW) rfl rfl hl.1 rfl (lv_room (Nat.le_of_ble_eq_true rfl)) dL_act_59 ⟨by show _ ≤ 601; omega, by show _ ≤ 8 * 601; omega⟩) hW (fun r9 k10 H locs h hW => ?_)
    replace hW := xW_start hW
    refine W.widen (k := n) (n := 8 * (n)) (by omega) (by omega) ?_
    refine lv_istore (lv' := [(5, .int r9), (0, .ref S0), (1, .int x1), (2, .int x2), (3, .int x3), (4, .int x4)]) hx hb dL_act_62 hl (by decide) rfl (fun ls hl => ?_)
    exact tL_act_64 l hlt D S0 g hx hb hr hml hown hts hlocks hs hE Q x1 x2 x3 x4 r9 n k10 _ _ _ h hW (lv_sub hl [1, 2, 3, 4, 5, 0] rfl)
  · replace h := h.1 c_8
    refine lv_iload_n hx hb dL_act_41 rfl (lv_at hl 2 rfl) ?_
    refine lv_iconst (v := 4) hx hb dL_act_42 (by decide) ?_
    refine lv_ishr hx hb dL_act_43 ?_
    refine lv_bipush (v := 22) hx hb dL_act_44 (by decide) ?_
    refine zc_i (va_runS (As := [.int (x2 >>> (4 &&& 31)), .int 22]) (rest := []) ⟨hx, hb, hml, hown, hts⟩ (cL_low_ok l hlt D S0 g k7 (x2 >>> (4 &&& 31)) 22 _ h) (va_cwS 2 hts gL_act_L_low rfl rfl rfl (by decide +kernel) ⟨Nat.le_of_ble_eq_true rfl, Nat.le_of_ble_eq_true rfl⟩) (zpreS hE hs hW) rfl rfl hl.1 rfl (lv_room (Nat.le_of_ble_eq_true rfl)) dL_act_46 ⟨by show _ ≤ 601; omega, by show _ ≤ 8 * 601; omega⟩) hW (fun r143 k144 H locs h hW => ?_)
    replace hW := xW_start hW
    refine W.widen (k := n) (n := 8 * (n)) (by omega) (by omega) ?_
    refine lv_iconst (v := 1) hx hb dL_act_49 (by decide) ?_
    refine lv_isub hx hb dL_act_50 ?_
    refine lv_goto (tgt := 62) hx hb dL_act_51 (by decide) ?_
    refine lv_istore (lv' := [(5, .int (r143 - 1)), (0, .ref S0), (1, .int x1), (2, .int x2), (3, .int x3), (4, .int x4)]) hx hb dL_act_62 hl (by decide) rfl (fun ls hl => ?_)
    exact tL_act_64 l hlt D S0 g hx hb hr hml hown hts hlocks hs hE Q x1 x2 x3 x4 (r143 - 1) n k144 _ _ _ h hW (lv_sub hl [1, 2, 3, 4, 5, 0] rfl)
def wL_act (S0 : Nat) (k0 : kS) (p1 : Int32) (p2 : Int32) (p3 : Int32) (Q : Int32 → kS → Prop) : Prop := (wL_low S0 k0 p2 7 (fun r1 k2 => ((r1 = 0 → (wL_low S0 k2 (p2 >>> (3 &&& 31)) 22 (fun r145 k146 => (wL_act_32 S0 Q p1 p2 p3 (r145 - 1) 0 k146)))) ∧ (¬ r1 = 0 → (wL_low S0 k2 (p2 >>> (3 &&& 31)) 6 (fun r4 k5 => (wL_act_32 S0 Q p1 p2 p3 r4 0 k5)))))))
set_option maxHeartbeats 8000000 in
set_option maxRecDepth 100000 in
theorem cL_act_ok (l : Launch) (hlt : l.stackTraces = false) (D : zD) (S0 : Nat) (g : zF) (k0 : kS) (p1 : Int32) (p2 : Int32) (p3 : Int32)  (Q : Int32 → kS → Prop) (h : wL_act S0 k0 p1 p2 p3 Q) : Met l yL_act wsL_act { frames := 9, cells := 601, slots := 8 * 601, locals := 207 } (zPc D S0 (xR D S0 g k0 k0) [.ref S0, .int p1, .int p2, .int p3]) (va_Qi Q (zB D S0 (fun u => xR D S0 g u u)) (zA S0)) 601 (8 * 601) (zA S0) := by
  refine zMet (cc := cL_act) (maxL := 6) (ret := (some .int)) (by decide) rfl (Nat.le_of_ble_eq_true rfl) (fun p e s m args below meth c ls hx hb hr hml hown hts hlocks hnm hs hE hW hl => ?_)
  replace hl : lv_has ls 6 [(0, .ref S0), (1, .int p1), (2, .int p2), (3, .int p3)] := hl
  unfold wL_act at h
  refine lv_iload_n hx hb dL_act_0 rfl (lv_at hl 2 rfl) ?_
  refine lv_bipush (v := 7) hx hb dL_act_1 (by decide) ?_
  refine zc_i (va_runS (As := [.int p2, .int 7]) (rest := []) ⟨hx, hb, hml, hown, hts⟩ (cL_low_ok l hlt D S0 g k0 p2 7 _ h) (va_cwS 2 hts gL_act_L_low rfl rfl rfl (by decide +kernel) ⟨Nat.le_of_ble_eq_true rfl, Nat.le_of_ble_eq_true rfl⟩) (zpreS hE hs hW) rfl rfl hl.1 rfl (lv_room (Nat.le_of_ble_eq_true rfl)) dL_act_3 ⟨by show _ ≤ 601; omega, by show _ ≤ 8 * 601; omega⟩) hW (fun r1 k2 H locs h hW => ?_)
  replace hW := xW_start hW
  refine W.widen (k := 0) (n := 8 * (0)) (by omega) (by omega) ?_
  refine lv_if_ne (tgt := 22) hx hb dL_act_6 (by decide) (fun c_3 => ?_) (fun c_3 => ?_)
  · replace h := h.2 c_3
    refine lv_iload_n hx hb dL_act_22 rfl (lv_at hl 2 rfl) ?_
    refine lv_iconst (v := 3) hx hb dL_act_23 (by decide) ?_
    refine lv_ishr hx hb dL_act_24 ?_
    refine lv_bipush (v := 6) hx hb dL_act_25 (by decide) ?_
    refine zc_i (va_runS (As := [.int (p2 >>> (3 &&& 31)), .int 6]) (rest := []) ⟨hx, hb, hml, hown, hts⟩ (cL_low_ok l hlt D S0 g k2 (p2 >>> (3 &&& 31)) 6 _ h) (va_cwS 2 hts gL_act_L_low rfl rfl rfl (by decide +kernel) ⟨Nat.le_of_ble_eq_true rfl, Nat.le_of_ble_eq_true rfl⟩) (zpreS hE hs hW) rfl rfl hl.1 rfl (lv_room (Nat.le_of_ble_eq_true rfl)) dL_act_27 ⟨by show _ ≤ 601; omega, by show _ ≤ 8 * 601; omega⟩) hW (fun r4 k5 H locs h hW => ?_)
    replace hW := xW_start hW
    refine W.widen (k := 0) (n := 8 * (0)) (by omega) (by omega) ?_
    refine lv_istore (lv' := [(4, .int r4), (0, .ref S0), (1, .int p1), (2, .int p2), (3, .int p3)]) hx hb dL_act_30 hl (by decide) rfl (fun ls hl => ?_)
    exact tL_act_32 l hlt D S0 g hx hb hr hml hown hts hlocks hs hE Q p1 p2 p3 r4 0 k5 _ _ _ h hW (lv_sub hl [1, 2, 3, 4, 0] rfl)
  · replace h := h.1 c_3
    refine lv_iload_n hx hb dL_act_9 rfl (lv_at hl 2 rfl) ?_
    refine lv_iconst (v := 3) hx hb dL_act_10 (by decide) ?_
    refine lv_ishr hx hb dL_act_11 ?_
    refine lv_bipush (v := 22) hx hb dL_act_12 (by decide) ?_
    refine zc_i (va_runS (As := [.int (p2 >>> (3 &&& 31)), .int 22]) (rest := []) ⟨hx, hb, hml, hown, hts⟩ (cL_low_ok l hlt D S0 g k2 (p2 >>> (3 &&& 31)) 22 _ h) (va_cwS 2 hts gL_act_L_low rfl rfl rfl (by decide +kernel) ⟨Nat.le_of_ble_eq_true rfl, Nat.le_of_ble_eq_true rfl⟩) (zpreS hE hs hW) rfl rfl hl.1 rfl (lv_room (Nat.le_of_ble_eq_true rfl)) dL_act_14 ⟨by show _ ≤ 601; omega, by show _ ≤ 8 * 601; omega⟩) hW (fun r145 k146 H locs h hW => ?_)
    replace hW := xW_start hW
    refine W.widen (k := 0) (n := 8 * (0)) (by omega) (by omega) ?_
    refine lv_iconst (v := 1) hx hb dL_act_17 (by decide) ?_
    refine lv_isub hx hb dL_act_18 ?_
    refine lv_goto (tgt := 30) hx hb dL_act_19 (by decide) ?_
    refine lv_istore (lv' := [(4, .int (r145 - 1)), (0, .ref S0), (1, .int p1), (2, .int p2), (3, .int p3)]) hx hb dL_act_30 hl (by decide) rfl (fun ls hl => ?_)
    exact tL_act_32 l hlt D S0 g hx hb hr hml hown hts hlocks hs hE Q p1 p2 p3 (r145 - 1) 0 k146 _ _ _ h hW (lv_sub hl [1, 2, 3, 4, 0] rfl)

