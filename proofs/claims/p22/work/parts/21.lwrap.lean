def wL_added (S0 : Nat) (k0 : kS) (p1 : Int32) (p2 : Int32) (Q : Int32 → kS → Prop) : Prop := wX5_addCopy S0 k0 p1 p2 (fun r u => Q r u) (fun E u => (E = "java/lang/IllegalArgumentException" ∧ Q (-3) u) ∨ (E = "java/lang/IllegalStateException" ∧ Q (-4) u))
set_option maxHeartbeats 8000000 in
set_option maxRecDepth 100000 in
theorem cL_added_ok (l : Launch) (hlt : l.stackTraces = false) (D : zD) (S0 : Nat) (g : zF) (k0 : kS) (p1 : Int32) (p2 : Int32) (Q : Int32 → kS → Prop) (h : wL_added S0 k0 p1 p2 Q) : Met l yL_added wsL_added { frames := 7, cells := 2, slots := 8 * 2, locals := 115 } (zPc D S0 (xR D S0 g k0 k0) [.ref S0, .int p1, .int p2]) (va_Qi Q (zB D S0 (fun u => xR D S0 g u u)) (zA S0)) 2 (8 * 2) (zA S0) := by
  refine zMetH (cc := cL_added) (maxL := 4) (ret := (some .int)) (hh := [(0, 6, 7, 15), (0, 6, 11, 17)]) (by decide) rfl (Nat.le_of_ble_eq_true rfl) (fun p e s m args below meth c ls hx hb hr hml hown hts hlocks htb hs hE hW hl => ?_)
  replace hl : lv_has ls 4 [(0, .ref S0), (1, .int p1), (2, .int p2)] := hl
  unfold wL_added at h
  refine lv_aload_n hx hb dL_added_0 rfl (lv_at hl 0 rfl) ?_
  refine lv_iload_n hx hb dL_added_1 rfl (lv_at hl 1 rfl) ?_
  refine lv_iload_n hx hb dL_added_2 rfl (lv_at hl 2 rfl) ?_
  refine zxc_i (vx_runV (As := [.int p1, .int p2]) (rest := []) ⟨hx, hb, hml, hown, hts⟩ (cX5_addCopy_ok l hlt D S0 g k0 p1 p2 _ _ h) (cwV 2 hts gL_added_X5_addCopy rfl rfl rfl (by decide +kernel) ⟨Nat.le_of_ble_eq_true rfl, Nat.le_of_ble_eq_true rfl⟩) (zpreV (q := (RX5, TX5, 7)) hE hs hW xC_U rfl) rfl rfl hl.1 rfl (lv_room (Nat.le_of_ble_eq_true rfl)) dL_added_3 ⟨by show _ ≤ 2; omega, by show _ ≤ 8 * 2; omega⟩) hW (fun E ce q9 k1 H locs h hW hcell hv9 hcl9 => ?_) (fun r k1 H locs h hW => ?_)
  · rcases h with ⟨rfl, h⟩ | ⟨rfl, h⟩
    · refine vx_catch hown [] ⟨0, 6, 7, 15⟩ [⟨0, 6, 11, 17⟩] htb (fun z hz => nomatch hz) (by decide) (by decide) (hts (.classLink RL 15 "java/lang/IllegalArgumentException") (by decide +kernel)) (va_Nw.use rfl (hE.2.2.2.2.2.1 _ (by decide))) hcell hv9 hcl9 ?_
      refine lv_astore_n (lv' := [(3, .ref q9), (0, .ref S0), (1, .int p1), (2, .int p2)]) hx hb dL_added_7 rfl hl (by decide) rfl (fun ls hl => ?_)
      refine lv_bipush (v := (-3)) hx hb dL_added_8 (by decide) ?_
      replace hW := xW_start hW
      refine W.widen (k := 2) (n := 8 * 2) (by omega) (by omega) ?_
      exact z_iret hx hb hr hlocks hW h dL_added_10
    · refine vx_catch hown [⟨0, 6, 7, 15⟩] ⟨0, 6, 11, 17⟩ [] htb (fun z hz => by rw [List.mem_singleton.mp hz]; exact Or.inr ⟨(by decide), "java/lang/IllegalArgumentException", hts (.classLink RL 15 "java/lang/IllegalArgumentException") (by decide +kernel), hE.2.2.2.2.2.2.2.1⟩) (by decide) (by decide) (hts (.classLink RL 17 "java/lang/IllegalStateException") (by decide +kernel)) (va_Nw.use rfl (hE.2.2.2.2.2.1 _ (by decide))) hcell hv9 hcl9 ?_
      refine lv_astore_n (lv' := [(3, .ref q9), (0, .ref S0), (1, .int p1), (2, .int p2)]) hx hb dL_added_11 rfl hl (by decide) rfl (fun ls hl => ?_)
      refine lv_bipush (v := (-4)) hx hb dL_added_12 (by decide) ?_
      replace hW := xW_start hW
      refine W.widen (k := 2) (n := 8 * 2) (by omega) (by omega) ?_
      exact z_iret hx hb hr hlocks hW h dL_added_14
  · replace hW := xW_start hW
    refine W.widen (k := 2) (n := 8 * 2) (by omega) (by omega) ?_
    exact z_iret hx hb hr hlocks hW h dL_added_6

def wL_asked (S0 : Nat) (k0 : kS) (p1 : Int32) (p2 : Int32) (Q : Int32 → kS → Prop) : Prop := wX5_request S0 k0 p1 p2 (fun r u => Q r u) (fun E u => (E = "java/lang/IllegalArgumentException" ∧ Q (-3) u) ∨ (E = "java/lang/IllegalStateException" ∧ Q (-4) u))
set_option maxHeartbeats 8000000 in
set_option maxRecDepth 100000 in
theorem cL_asked_ok (l : Launch) (hlt : l.stackTraces = false) (D : zD) (S0 : Nat) (g : zF) (k0 : kS) (p1 : Int32) (p2 : Int32) (Q : Int32 → kS → Prop) (h : wL_asked S0 k0 p1 p2 Q) : Met l yL_asked wsL_asked { frames := 7, cells := 2, slots := 8 * 2, locals := 117 } (zPc D S0 (xR D S0 g k0 k0) [.ref S0, .int p1, .int p2]) (va_Qi Q (zB D S0 (fun u => xR D S0 g u u)) (zA S0)) 2 (8 * 2) (zA S0) := by
  refine zMetH (cc := cL_asked) (maxL := 4) (ret := (some .int)) (hh := [(0, 6, 7, 15), (0, 6, 11, 17)]) (by decide) rfl (Nat.le_of_ble_eq_true rfl) (fun p e s m args below meth c ls hx hb hr hml hown hts hlocks htb hs hE hW hl => ?_)
  replace hl : lv_has ls 4 [(0, .ref S0), (1, .int p1), (2, .int p2)] := hl
  unfold wL_asked at h
  refine lv_aload_n hx hb dL_asked_0 rfl (lv_at hl 0 rfl) ?_
  refine lv_iload_n hx hb dL_asked_1 rfl (lv_at hl 1 rfl) ?_
  refine lv_iload_n hx hb dL_asked_2 rfl (lv_at hl 2 rfl) ?_
  refine zxc_i (vx_runV (As := [.int p1, .int p2]) (rest := []) ⟨hx, hb, hml, hown, hts⟩ (cX5_request_ok l hlt D S0 g k0 p1 p2 _ _ h) (cwV 2 hts gL_asked_X5_request rfl rfl rfl (by decide +kernel) ⟨Nat.le_of_ble_eq_true rfl, Nat.le_of_ble_eq_true rfl⟩) (zpreV (q := (RX5, TX5, 7)) hE hs hW xC_U rfl) rfl rfl hl.1 rfl (lv_room (Nat.le_of_ble_eq_true rfl)) dL_asked_3 ⟨by show _ ≤ 2; omega, by show _ ≤ 8 * 2; omega⟩) hW (fun E ce q9 k1 H locs h hW hcell hv9 hcl9 => ?_) (fun r k1 H locs h hW => ?_)
  · rcases h with ⟨rfl, h⟩ | ⟨rfl, h⟩
    · refine vx_catch hown [] ⟨0, 6, 7, 15⟩ [⟨0, 6, 11, 17⟩] htb (fun z hz => nomatch hz) (by decide) (by decide) (hts (.classLink RL 15 "java/lang/IllegalArgumentException") (by decide +kernel)) (va_Nw.use rfl (hE.2.2.2.2.2.1 _ (by decide))) hcell hv9 hcl9 ?_
      refine lv_astore_n (lv' := [(3, .ref q9), (0, .ref S0), (1, .int p1), (2, .int p2)]) hx hb dL_asked_7 rfl hl (by decide) rfl (fun ls hl => ?_)
      refine lv_bipush (v := (-3)) hx hb dL_asked_8 (by decide) ?_
      replace hW := xW_start hW
      refine W.widen (k := 2) (n := 8 * 2) (by omega) (by omega) ?_
      exact z_iret hx hb hr hlocks hW h dL_asked_10
    · refine vx_catch hown [⟨0, 6, 7, 15⟩] ⟨0, 6, 11, 17⟩ [] htb (fun z hz => by rw [List.mem_singleton.mp hz]; exact Or.inr ⟨(by decide), "java/lang/IllegalArgumentException", hts (.classLink RL 15 "java/lang/IllegalArgumentException") (by decide +kernel), hE.2.2.2.2.2.2.2.1⟩) (by decide) (by decide) (hts (.classLink RL 17 "java/lang/IllegalStateException") (by decide +kernel)) (va_Nw.use rfl (hE.2.2.2.2.2.1 _ (by decide))) hcell hv9 hcl9 ?_
      refine lv_astore_n (lv' := [(3, .ref q9), (0, .ref S0), (1, .int p1), (2, .int p2)]) hx hb dL_asked_11 rfl hl (by decide) rfl (fun ls hl => ?_)
      refine lv_bipush (v := (-4)) hx hb dL_asked_12 (by decide) ?_
      replace hW := xW_start hW
      refine W.widen (k := 2) (n := 8 * 2) (by omega) (by omega) ?_
      exact z_iret hx hb hr hlocks hW h dL_asked_14
  · replace hW := xW_start hW
    refine W.widen (k := 2) (n := 8 * 2) (by omega) (by omega) ?_
    exact z_iret hx hb hr hlocks hW h dL_asked_6

def wL_harmed (S0 : Nat) (k0 : kS) (p1 : Int32) (Q : Int32 → kS → Prop) : Prop := wX5_harm S0 k0 p1 (fun r u => Q r u) (fun E u => (E = "java/lang/IndexOutOfBoundsException" ∧ Q (-2) u) ∨ (E = "java/lang/IllegalStateException" ∧ Q (-4) u))
set_option maxHeartbeats 8000000 in
set_option maxRecDepth 100000 in
theorem cL_harmed_ok (l : Launch) (hlt : l.stackTraces = false) (D : zD) (S0 : Nat) (g : zF) (k0 : kS) (p1 : Int32) (Q : Int32 → kS → Prop) (h : wL_harmed S0 k0 p1 Q) : Met l yL_harmed wsL_harmed { frames := 8, cells := 2, slots := 8 * 2, locals := 134 } (zPc D S0 (xR D S0 g k0 k0) [.ref S0, .int p1]) (va_Qi Q (zB D S0 (fun u => xR D S0 g u u)) (zA S0)) 2 (8 * 2) (zA S0) := by
  refine zMetH (cc := cL_harmed) (maxL := 3) (ret := (some .int)) (hh := [(0, 5, 6, 26), (0, 5, 10, 17)]) (by decide) rfl (Nat.le_of_ble_eq_true rfl) (fun p e s m args below meth c ls hx hb hr hml hown hts hlocks htb hs hE hW hl => ?_)
  replace hl : lv_has ls 3 [(0, .ref S0), (1, .int p1)] := hl
  unfold wL_harmed at h
  refine lv_aload_n hx hb dL_harmed_0 rfl (lv_at hl 0 rfl) ?_
  refine lv_iload_n hx hb dL_harmed_1 rfl (lv_at hl 1 rfl) ?_
  refine zxc_i (vx_runV (As := [.int p1]) (rest := []) ⟨hx, hb, hml, hown, hts⟩ (cX5_harm_ok l hlt D S0 g k0 p1 _ _ h) (cwV 1 hts gL_harmed_X5_harm rfl rfl rfl (by decide +kernel) ⟨Nat.le_of_ble_eq_true rfl, Nat.le_of_ble_eq_true rfl⟩) (zpreV (q := (RX5, TX5, 7)) hE hs hW xC_U rfl) rfl rfl hl.1 rfl (lv_room (Nat.le_of_ble_eq_true rfl)) dL_harmed_2 ⟨by show _ ≤ 2; omega, by show _ ≤ 8 * 2; omega⟩) hW (fun E ce q9 k1 H locs h hW hcell hv9 hcl9 => ?_) (fun r k1 H locs h hW => ?_)
  · rcases h with ⟨rfl, h⟩ | ⟨rfl, h⟩
    · refine vx_catch hown [] ⟨0, 5, 6, 26⟩ [⟨0, 5, 10, 17⟩] htb (fun z hz => nomatch hz) (by decide) (by decide) (hts (.classLink RL 26 "java/lang/IndexOutOfBoundsException") (by decide +kernel)) (va_Nw.use rfl (hE.2.2.2.2.2.1 _ (by decide))) hcell hv9 hcl9 ?_
      refine lv_astore_n (lv' := [(2, .ref q9), (0, .ref S0), (1, .int p1)]) hx hb dL_harmed_6 rfl hl (by decide) rfl (fun ls hl => ?_)
      refine lv_bipush (v := (-2)) hx hb dL_harmed_7 (by decide) ?_
      replace hW := xW_start hW
      refine W.widen (k := 2) (n := 8 * 2) (by omega) (by omega) ?_
      exact z_iret hx hb hr hlocks hW h dL_harmed_9
    · refine vx_catch hown [⟨0, 5, 6, 26⟩] ⟨0, 5, 10, 17⟩ [] htb (fun z hz => by rw [List.mem_singleton.mp hz]; exact Or.inr ⟨(by decide), "java/lang/IndexOutOfBoundsException", hts (.classLink RL 26 "java/lang/IndexOutOfBoundsException") (by decide +kernel), hE.2.2.2.2.2.2.2.2⟩) (by decide) (by decide) (hts (.classLink RL 17 "java/lang/IllegalStateException") (by decide +kernel)) (va_Nw.use rfl (hE.2.2.2.2.2.1 _ (by decide))) hcell hv9 hcl9 ?_
      refine lv_astore_n (lv' := [(2, .ref q9), (0, .ref S0), (1, .int p1)]) hx hb dL_harmed_10 rfl hl (by decide) rfl (fun ls hl => ?_)
      refine lv_bipush (v := (-4)) hx hb dL_harmed_11 (by decide) ?_
      replace hW := xW_start hW
      refine W.widen (k := 2) (n := 8 * 2) (by omega) (by omega) ?_
      exact z_iret hx hb hr hlocks hW h dL_harmed_13
  · replace hW := xW_start hW
    refine W.widen (k := 2) (n := 8 * 2) (by omega) (by omega) ?_
    exact z_iret hx hb hr hlocks hW h dL_harmed_5

def wL_looked (S0 : Nat) (k0 : kS) (p1 : Int32) (Q : Int32 → kS → Prop) : Prop := wX5_look S0 k0 p1 (fun r u => Q (16 + r) u) (fun E u => (E = "java/lang/IndexOutOfBoundsException" ∧ Q (-2) u) ∨ (E = "java/lang/IllegalStateException" ∧ Q (-4) u))
set_option maxHeartbeats 8000000 in
set_option maxRecDepth 100000 in
theorem cL_looked_ok (l : Launch) (hlt : l.stackTraces = false) (D : zD) (S0 : Nat) (g : zF) (k0 : kS) (p1 : Int32) (Q : Int32 → kS → Prop) (h : wL_looked S0 k0 p1 Q) : Met l yL_looked wsL_looked { frames := 8, cells := 2, slots := 8 * 2, locals := 136 } (zPc D S0 (xR D S0 g k0 k0) [.ref S0, .int p1]) (va_Qi Q (zB D S0 (fun u => xR D S0 g u u)) (zA S0)) 2 (8 * 2) (zA S0) := by
  refine zMetH (cc := cL_looked) (maxL := 3) (ret := (some .int)) (hh := [(0, 8, 9, 26), (0, 8, 13, 17)]) (by decide) rfl (Nat.le_of_ble_eq_true rfl) (fun p e s m args below meth c ls hx hb hr hml hown hts hlocks htb hs hE hW hl => ?_)
  replace hl : lv_has ls 3 [(0, .ref S0), (1, .int p1)] := hl
  unfold wL_looked at h
  refine lv_bipush (v := 16) hx hb dL_looked_0 (by decide) ?_
  refine lv_aload_n hx hb dL_looked_2 rfl (lv_at hl 0 rfl) ?_
  refine lv_iload_n hx hb dL_looked_3 rfl (lv_at hl 1 rfl) ?_
  refine zxc_i (vx_runV (As := [.int p1]) (rest := [.int 16]) ⟨hx, hb, hml, hown, hts⟩ (cX5_look_ok l hlt D S0 g k0 p1 _ _ h) (cwV 1 hts gL_looked_X5_look rfl rfl rfl (by decide +kernel) ⟨Nat.le_of_ble_eq_true rfl, Nat.le_of_ble_eq_true rfl⟩) (zpreV (q := (RX5, TX5, 7)) hE hs hW xC_U rfl) rfl rfl hl.1 rfl (lv_room (Nat.le_of_ble_eq_true rfl)) dL_looked_4 ⟨by show _ ≤ 2; omega, by show _ ≤ 8 * 2; omega⟩) hW (fun E ce q9 k1 H locs h hW hcell hv9 hcl9 => ?_) (fun r k1 H locs h hW => ?_)
  · rcases h with ⟨rfl, h⟩ | ⟨rfl, h⟩
    · refine vx_catch hown [] ⟨0, 8, 9, 26⟩ [⟨0, 8, 13, 17⟩] htb (fun z hz => nomatch hz) (by decide) (by decide) (hts (.classLink RL 26 "java/lang/IndexOutOfBoundsException") (by decide +kernel)) (va_Nw.use rfl (hE.2.2.2.2.2.1 _ (by decide))) hcell hv9 hcl9 ?_
      refine lv_astore_n (lv' := [(2, .ref q9), (0, .ref S0), (1, .int p1)]) hx hb dL_looked_9 rfl hl (by decide) rfl (fun ls hl => ?_)
      refine lv_bipush (v := (-2)) hx hb dL_looked_10 (by decide) ?_
      replace hW := xW_start hW
      refine W.widen (k := 2) (n := 8 * 2) (by omega) (by omega) ?_
      exact z_iret hx hb hr hlocks hW h dL_looked_12
    · refine vx_catch hown [⟨0, 8, 9, 26⟩] ⟨0, 8, 13, 17⟩ [] htb (fun z hz => by rw [List.mem_singleton.mp hz]; exact Or.inr ⟨(by decide), "java/lang/IndexOutOfBoundsException", hts (.classLink RL 26 "java/lang/IndexOutOfBoundsException") (by decide +kernel), hE.2.2.2.2.2.2.2.2⟩) (by decide) (by decide) (hts (.classLink RL 17 "java/lang/IllegalStateException") (by decide +kernel)) (va_Nw.use rfl (hE.2.2.2.2.2.1 _ (by decide))) hcell hv9 hcl9 ?_
      refine lv_astore_n (lv' := [(2, .ref q9), (0, .ref S0), (1, .int p1)]) hx hb dL_looked_13 rfl hl (by decide) rfl (fun ls hl => ?_)
      refine lv_bipush (v := (-4)) hx hb dL_looked_14 (by decide) ?_
      replace hW := xW_start hW
      refine W.widen (k := 2) (n := 8 * 2) (by omega) (by omega) ?_
      exact z_iret hx hb hr hlocks hW h dL_looked_16
  · replace hW := xW_start hW
    refine W.widen (k := 2) (n := 8 * 2) (by omega) (by omega) ?_
    refine lv_iadd hx hb dL_looked_7 ?_
    exact z_iret hx hb hr hlocks hW h dL_looked_8

def wL_mended (S0 : Nat) (k0 : kS) (p1 : Int32) (Q : Int32 → kS → Prop) : Prop := wX5_mend S0 k0 p1 (fun u => Q 0 u) (fun E u => (E = "java/lang/IndexOutOfBoundsException" ∧ Q (-2) u) ∨ (E = "java/lang/IllegalStateException" ∧ Q (-4) u))
set_option maxHeartbeats 8000000 in
set_option maxRecDepth 100000 in
theorem cL_mended_ok (l : Launch) (hlt : l.stackTraces = false) (D : zD) (S0 : Nat) (g : zF) (k0 : kS) (p1 : Int32) (Q : Int32 → kS → Prop) (h : wL_mended S0 k0 p1 Q) : Met l yL_mended wsL_mended { frames := 8, cells := 2, slots := 8 * 2, locals := 134 } (zPc D S0 (xR D S0 g k0 k0) [.ref S0, .int p1]) (va_Qi Q (zB D S0 (fun u => xR D S0 g u u)) (zA S0)) 2 (8 * 2) (zA S0) := by
  refine zMetH (cc := cL_mended) (maxL := 3) (ret := (some .int)) (hh := [(0, 6, 7, 26), (0, 6, 11, 17)]) (by decide) rfl (Nat.le_of_ble_eq_true rfl) (fun p e s m args below meth c ls hx hb hr hml hown hts hlocks htb hs hE hW hl => ?_)
  replace hl : lv_has ls 3 [(0, .ref S0), (1, .int p1)] := hl
  unfold wL_mended at h
  refine lv_aload_n hx hb dL_mended_0 rfl (lv_at hl 0 rfl) ?_
  refine lv_iload_n hx hb dL_mended_1 rfl (lv_at hl 1 rfl) ?_
  refine zxc_v (vx_runV (As := [.int p1]) (rest := []) ⟨hx, hb, hml, hown, hts⟩ (cX5_mend_ok l hlt D S0 g k0 p1 _ _ h) (cwV 1 hts gL_mended_X5_mend rfl rfl rfl (by decide +kernel) ⟨Nat.le_of_ble_eq_true rfl, Nat.le_of_ble_eq_true rfl⟩) (zpreV (q := (RX5, TX5, 7)) hE hs hW xC_U rfl) rfl rfl hl.1 rfl (lv_room (Nat.le_of_ble_eq_true rfl)) dL_mended_2 ⟨by show _ ≤ 2; omega, by show _ ≤ 8 * 2; omega⟩) hW (fun E ce q9 k1 H locs h hW hcell hv9 hcl9 => ?_) (fun k1 H locs h hW => ?_)
  · rcases h with ⟨rfl, h⟩ | ⟨rfl, h⟩
    · refine vx_catch hown [] ⟨0, 6, 7, 26⟩ [⟨0, 6, 11, 17⟩] htb (fun z hz => nomatch hz) (by decide) (by decide) (hts (.classLink RL 26 "java/lang/IndexOutOfBoundsException") (by decide +kernel)) (va_Nw.use rfl (hE.2.2.2.2.2.1 _ (by decide))) hcell hv9 hcl9 ?_
      refine lv_astore_n (lv' := [(2, .ref q9), (0, .ref S0), (1, .int p1)]) hx hb dL_mended_7 rfl hl (by decide) rfl (fun ls hl => ?_)
      refine lv_bipush (v := (-2)) hx hb dL_mended_8 (by decide) ?_
      replace hW := xW_start hW
      refine W.widen (k := 2) (n := 8 * 2) (by omega) (by omega) ?_
      exact z_iret hx hb hr hlocks hW h dL_mended_10
    · refine vx_catch hown [⟨0, 6, 7, 26⟩] ⟨0, 6, 11, 17⟩ [] htb (fun z hz => by rw [List.mem_singleton.mp hz]; exact Or.inr ⟨(by decide), "java/lang/IndexOutOfBoundsException", hts (.classLink RL 26 "java/lang/IndexOutOfBoundsException") (by decide +kernel), hE.2.2.2.2.2.2.2.2⟩) (by decide) (by decide) (hts (.classLink RL 17 "java/lang/IllegalStateException") (by decide +kernel)) (va_Nw.use rfl (hE.2.2.2.2.2.1 _ (by decide))) hcell hv9 hcl9 ?_
      refine lv_astore_n (lv' := [(2, .ref q9), (0, .ref S0), (1, .int p1)]) hx hb dL_mended_11 rfl hl (by decide) rfl (fun ls hl => ?_)
      refine lv_bipush (v := (-4)) hx hb dL_mended_12 (by decide) ?_
      replace hW := xW_start hW
      refine W.widen (k := 2) (n := 8 * 2) (by omega) (by omega) ?_
      exact z_iret hx hb hr hlocks hW h dL_mended_14
  · replace hW := xW_start hW
    refine W.widen (k := 2) (n := 8 * 2) (by omega) (by omega) ?_
    refine lv_iconst (v := 0) hx hb dL_mended_5 (by decide) ?_
    exact z_iret hx hb hr hlocks hW h dL_mended_6

def wL_renewed (S0 : Nat) (k0 : kS) (p1 : Int32) (Q : Int32 → kS → Prop) : Prop := wX5_renew S0 k0 p1 (fun r u => Q r u) (fun E u => (E = "java/lang/IndexOutOfBoundsException" ∧ Q (-2) u) ∨ (E = "java/lang/IllegalStateException" ∧ Q (-4) u))
set_option maxHeartbeats 8000000 in
set_option maxRecDepth 100000 in
theorem cL_renewed_ok (l : Launch) (hlt : l.stackTraces = false) (D : zD) (S0 : Nat) (g : zF) (k0 : kS) (p1 : Int32) (Q : Int32 → kS → Prop) (h : wL_renewed S0 k0 p1 Q) : Met l yL_renewed wsL_renewed { frames := 8, cells := 2, slots := 8 * 2, locals := 135 } (zPc D S0 (xR D S0 g k0 k0) [.ref S0, .int p1]) (va_Qi Q (zB D S0 (fun u => xR D S0 g u u)) (zA S0)) 2 (8 * 2) (zA S0) := by
  refine zMetH (cc := cL_renewed) (maxL := 3) (ret := (some .int)) (hh := [(0, 5, 6, 26), (0, 5, 10, 17)]) (by decide) rfl (Nat.le_of_ble_eq_true rfl) (fun p e s m args below meth c ls hx hb hr hml hown hts hlocks htb hs hE hW hl => ?_)
  replace hl : lv_has ls 3 [(0, .ref S0), (1, .int p1)] := hl
  unfold wL_renewed at h
  refine lv_aload_n hx hb dL_renewed_0 rfl (lv_at hl 0 rfl) ?_
  refine lv_iload_n hx hb dL_renewed_1 rfl (lv_at hl 1 rfl) ?_
  refine zxc_i (vx_runV (As := [.int p1]) (rest := []) ⟨hx, hb, hml, hown, hts⟩ (cX5_renew_ok l hlt D S0 g k0 p1 _ _ h) (cwV 1 hts gL_renewed_X5_renew rfl rfl rfl (by decide +kernel) ⟨Nat.le_of_ble_eq_true rfl, Nat.le_of_ble_eq_true rfl⟩) (zpreV (q := (RX5, TX5, 7)) hE hs hW xC_U rfl) rfl rfl hl.1 rfl (lv_room (Nat.le_of_ble_eq_true rfl)) dL_renewed_2 ⟨by show _ ≤ 2; omega, by show _ ≤ 8 * 2; omega⟩) hW (fun E ce q9 k1 H locs h hW hcell hv9 hcl9 => ?_) (fun r k1 H locs h hW => ?_)
  · rcases h with ⟨rfl, h⟩ | ⟨rfl, h⟩
    · refine vx_catch hown [] ⟨0, 5, 6, 26⟩ [⟨0, 5, 10, 17⟩] htb (fun z hz => nomatch hz) (by decide) (by decide) (hts (.classLink RL 26 "java/lang/IndexOutOfBoundsException") (by decide +kernel)) (va_Nw.use rfl (hE.2.2.2.2.2.1 _ (by decide))) hcell hv9 hcl9 ?_
      refine lv_astore_n (lv' := [(2, .ref q9), (0, .ref S0), (1, .int p1)]) hx hb dL_renewed_6 rfl hl (by decide) rfl (fun ls hl => ?_)
      refine lv_bipush (v := (-2)) hx hb dL_renewed_7 (by decide) ?_
      replace hW := xW_start hW
      refine W.widen (k := 2) (n := 8 * 2) (by omega) (by omega) ?_
      exact z_iret hx hb hr hlocks hW h dL_renewed_9
    · refine vx_catch hown [⟨0, 5, 6, 26⟩] ⟨0, 5, 10, 17⟩ [] htb (fun z hz => by rw [List.mem_singleton.mp hz]; exact Or.inr ⟨(by decide), "java/lang/IndexOutOfBoundsException", hts (.classLink RL 26 "java/lang/IndexOutOfBoundsException") (by decide +kernel), hE.2.2.2.2.2.2.2.2⟩) (by decide) (by decide) (hts (.classLink RL 17 "java/lang/IllegalStateException") (by decide +kernel)) (va_Nw.use rfl (hE.2.2.2.2.2.1 _ (by decide))) hcell hv9 hcl9 ?_
      refine lv_astore_n (lv' := [(2, .ref q9), (0, .ref S0), (1, .int p1)]) hx hb dL_renewed_10 rfl hl (by decide) rfl (fun ls hl => ?_)
      refine lv_bipush (v := (-4)) hx hb dL_renewed_11 (by decide) ?_
      replace hW := xW_start hW
      refine W.widen (k := 2) (n := 8 * 2) (by omega) (by omega) ?_
      exact z_iret hx hb hr hlocks hW h dL_renewed_13
  · replace hW := xW_start hW
    refine W.widen (k := 2) (n := 8 * 2) (by omega) (by omega) ?_
    exact z_iret hx hb hr hlocks hW h dL_renewed_5

def wL_recalled (S0 : Nat) (k0 : kS) (p1 : Int32) (Q : Int32 → kS → Prop) : Prop := wX5_recall S0 k0 p1 (fun r u => Q r u) (fun E u => (E = "java/lang/IndexOutOfBoundsException" ∧ Q (-2) u) ∨ (E = "java/lang/IllegalStateException" ∧ Q (-4) u))
set_option maxHeartbeats 8000000 in
set_option maxRecDepth 100000 in
theorem cL_recalled_ok (l : Launch) (hlt : l.stackTraces = false) (D : zD) (S0 : Nat) (g : zF) (k0 : kS) (p1 : Int32) (Q : Int32 → kS → Prop) (h : wL_recalled S0 k0 p1 Q) : Met l yL_recalled wsL_recalled { frames := 8, cells := 2, slots := 8 * 2, locals := 135 } (zPc D S0 (xR D S0 g k0 k0) [.ref S0, .int p1]) (va_Qi Q (zB D S0 (fun u => xR D S0 g u u)) (zA S0)) 2 (8 * 2) (zA S0) := by
  refine zMetH (cc := cL_recalled) (maxL := 3) (ret := (some .int)) (hh := [(0, 5, 6, 26), (0, 5, 10, 17)]) (by decide) rfl (Nat.le_of_ble_eq_true rfl) (fun p e s m args below meth c ls hx hb hr hml hown hts hlocks htb hs hE hW hl => ?_)
  replace hl : lv_has ls 3 [(0, .ref S0), (1, .int p1)] := hl
  unfold wL_recalled at h
  refine lv_aload_n hx hb dL_recalled_0 rfl (lv_at hl 0 rfl) ?_
  refine lv_iload_n hx hb dL_recalled_1 rfl (lv_at hl 1 rfl) ?_
  refine zxc_i (vx_runV (As := [.int p1]) (rest := []) ⟨hx, hb, hml, hown, hts⟩ (cX5_recall_ok l hlt D S0 g k0 p1 _ _ h) (cwV 1 hts gL_recalled_X5_recall rfl rfl rfl (by decide +kernel) ⟨Nat.le_of_ble_eq_true rfl, Nat.le_of_ble_eq_true rfl⟩) (zpreV (q := (RX5, TX5, 7)) hE hs hW xC_U rfl) rfl rfl hl.1 rfl (lv_room (Nat.le_of_ble_eq_true rfl)) dL_recalled_2 ⟨by show _ ≤ 2; omega, by show _ ≤ 8 * 2; omega⟩) hW (fun E ce q9 k1 H locs h hW hcell hv9 hcl9 => ?_) (fun r k1 H locs h hW => ?_)
  · rcases h with ⟨rfl, h⟩ | ⟨rfl, h⟩
    · refine vx_catch hown [] ⟨0, 5, 6, 26⟩ [⟨0, 5, 10, 17⟩] htb (fun z hz => nomatch hz) (by decide) (by decide) (hts (.classLink RL 26 "java/lang/IndexOutOfBoundsException") (by decide +kernel)) (va_Nw.use rfl (hE.2.2.2.2.2.1 _ (by decide))) hcell hv9 hcl9 ?_
      refine lv_astore_n (lv' := [(2, .ref q9), (0, .ref S0), (1, .int p1)]) hx hb dL_recalled_6 rfl hl (by decide) rfl (fun ls hl => ?_)
      refine lv_bipush (v := (-2)) hx hb dL_recalled_7 (by decide) ?_
      replace hW := xW_start hW
      refine W.widen (k := 2) (n := 8 * 2) (by omega) (by omega) ?_
      exact z_iret hx hb hr hlocks hW h dL_recalled_9
    · refine vx_catch hown [⟨0, 5, 6, 26⟩] ⟨0, 5, 10, 17⟩ [] htb (fun z hz => by rw [List.mem_singleton.mp hz]; exact Or.inr ⟨(by decide), "java/lang/IndexOutOfBoundsException", hts (.classLink RL 26 "java/lang/IndexOutOfBoundsException") (by decide +kernel), hE.2.2.2.2.2.2.2.2⟩) (by decide) (by decide) (hts (.classLink RL 17 "java/lang/IllegalStateException") (by decide +kernel)) (va_Nw.use rfl (hE.2.2.2.2.2.1 _ (by decide))) hcell hv9 hcl9 ?_
      refine lv_astore_n (lv' := [(2, .ref q9), (0, .ref S0), (1, .int p1)]) hx hb dL_recalled_10 rfl hl (by decide) rfl (fun ls hl => ?_)
      refine lv_bipush (v := (-4)) hx hb dL_recalled_11 (by decide) ?_
      replace hW := xW_start hW
      refine W.widen (k := 2) (n := 8 * 2) (by omega) (by omega) ?_
      exact z_iret hx hb hr hlocks hW h dL_recalled_13
  · replace hW := xW_start hW
    refine W.widen (k := 2) (n := 8 * 2) (by omega) (by omega) ?_
    exact z_iret hx hb hr hlocks hW h dL_recalled_5

def wL_back (S0 : Nat) (k0 : kS) (p1 : Int32) (Q : Int32 → kS → Prop) : Prop := wX5_sendBack S0 k0 p1 (fun r u => Q r u) (fun E u => (E = "java/lang/IndexOutOfBoundsException" ∧ Q (-2) u) ∨ (E = "java/lang/IllegalStateException" ∧ Q (-4) u))
set_option maxHeartbeats 8000000 in
set_option maxRecDepth 100000 in
theorem cL_back_ok (l : Launch) (hlt : l.stackTraces = false) (D : zD) (S0 : Nat) (g : zF) (k0 : kS) (p1 : Int32) (Q : Int32 → kS → Prop) (h : wL_back S0 k0 p1 Q) : Met l yL_back wsL_back { frames := 8, cells := 2, slots := 8 * 2, locals := 136 } (zPc D S0 (xR D S0 g k0 k0) [.ref S0, .int p1]) (va_Qi Q (zB D S0 (fun u => xR D S0 g u u)) (zA S0)) 2 (8 * 2) (zA S0) := by
  refine zMetH (cc := cL_back) (maxL := 3) (ret := (some .int)) (hh := [(0, 5, 6, 26), (0, 5, 10, 17)]) (by decide) rfl (Nat.le_of_ble_eq_true rfl) (fun p e s m args below meth c ls hx hb hr hml hown hts hlocks htb hs hE hW hl => ?_)
  replace hl : lv_has ls 3 [(0, .ref S0), (1, .int p1)] := hl
  unfold wL_back at h
  refine lv_aload_n hx hb dL_back_0 rfl (lv_at hl 0 rfl) ?_
  refine lv_iload_n hx hb dL_back_1 rfl (lv_at hl 1 rfl) ?_
  refine zxc_i (vx_runV (As := [.int p1]) (rest := []) ⟨hx, hb, hml, hown, hts⟩ (cX5_sendBack_ok l hlt D S0 g k0 p1 _ _ h) (cwV 1 hts gL_back_X5_sendBack rfl rfl rfl (by decide +kernel) ⟨Nat.le_of_ble_eq_true rfl, Nat.le_of_ble_eq_true rfl⟩) (zpreV (q := (RX5, TX5, 7)) hE hs hW xC_U rfl) rfl rfl hl.1 rfl (lv_room (Nat.le_of_ble_eq_true rfl)) dL_back_2 ⟨by show _ ≤ 2; omega, by show _ ≤ 8 * 2; omega⟩) hW (fun E ce q9 k1 H locs h hW hcell hv9 hcl9 => ?_) (fun r k1 H locs h hW => ?_)
  · rcases h with ⟨rfl, h⟩ | ⟨rfl, h⟩
    · refine vx_catch hown [] ⟨0, 5, 6, 26⟩ [⟨0, 5, 10, 17⟩] htb (fun z hz => nomatch hz) (by decide) (by decide) (hts (.classLink RL 26 "java/lang/IndexOutOfBoundsException") (by decide +kernel)) (va_Nw.use rfl (hE.2.2.2.2.2.1 _ (by decide))) hcell hv9 hcl9 ?_
      refine lv_astore_n (lv' := [(2, .ref q9), (0, .ref S0), (1, .int p1)]) hx hb dL_back_6 rfl hl (by decide) rfl (fun ls hl => ?_)
      refine lv_bipush (v := (-2)) hx hb dL_back_7 (by decide) ?_
      replace hW := xW_start hW
      refine W.widen (k := 2) (n := 8 * 2) (by omega) (by omega) ?_
      exact z_iret hx hb hr hlocks hW h dL_back_9
    · refine vx_catch hown [⟨0, 5, 6, 26⟩] ⟨0, 5, 10, 17⟩ [] htb (fun z hz => by rw [List.mem_singleton.mp hz]; exact Or.inr ⟨(by decide), "java/lang/IndexOutOfBoundsException", hts (.classLink RL 26 "java/lang/IndexOutOfBoundsException") (by decide +kernel), hE.2.2.2.2.2.2.2.2⟩) (by decide) (by decide) (hts (.classLink RL 17 "java/lang/IllegalStateException") (by decide +kernel)) (va_Nw.use rfl (hE.2.2.2.2.2.1 _ (by decide))) hcell hv9 hcl9 ?_
      refine lv_astore_n (lv' := [(2, .ref q9), (0, .ref S0), (1, .int p1)]) hx hb dL_back_10 rfl hl (by decide) rfl (fun ls hl => ?_)
      refine lv_bipush (v := (-4)) hx hb dL_back_11 (by decide) ?_
      replace hW := xW_start hW
      refine W.widen (k := 2) (n := 8 * 2) (by omega) (by omega) ?_
      exact z_iret hx hb hr hlocks hW h dL_back_13
  · replace hW := xW_start hW
    refine W.widen (k := 2) (n := 8 * 2) (by omega) (by omega) ?_
    exact z_iret hx hb hr hlocks hW h dL_back_5

def wL_passed (S0 : Nat) (k0 : kS) (p1 : Int32) (Q : Int32 → kS → Prop) : Prop := wX5_pass S0 601 k0 p1 (fun r u => Q r u) (fun E u => (E = "java/lang/IllegalArgumentException" ∧ Q (-3) u))
set_option maxHeartbeats 8000000 in
set_option maxRecDepth 100000 in
theorem cL_passed_ok (l : Launch) (hlt : l.stackTraces = false) (D : zD) (S0 : Nat) (g : zF) (k0 : kS) (p1 : Int32) (Q : Int32 → kS → Prop) (h : wL_passed S0 k0 p1 Q) : Met l yL_passed wsL_passed { frames := 8, cells := 601, slots := 8 * 601, locals := 185 } (zPc D S0 (xR D S0 g k0 k0) [.ref S0, .int p1]) (va_Qi Q (zB D S0 (fun u => xR D S0 g u u)) (zA S0)) 601 (8 * 601) (zA S0) := by
  refine zMetH (cc := cL_passed) (maxL := 3) (ret := (some .int)) (hh := [(0, 5, 6, 15)]) (by decide) rfl (Nat.le_of_ble_eq_true rfl) (fun p e s m args below meth c ls hx hb hr hml hown hts hlocks htb hs hE hW hl => ?_)
  replace hl : lv_has ls 3 [(0, .ref S0), (1, .int p1)] := hl
  unfold wL_passed at h
  refine lv_aload_n hx hb dL_passed_0 rfl (lv_at hl 0 rfl) ?_
  refine lv_iload_n hx hb dL_passed_1 rfl (lv_at hl 1 rfl) ?_
  refine zxc_i (vx_runV (As := [.int p1]) (rest := []) ⟨hx, hb, hml, hown, hts⟩ (cX5_pass_ok l hlt D S0 g 601 k0 p1 _ _ h) (cwV 1 hts gL_passed_X5_pass rfl rfl rfl (by decide +kernel) ⟨Nat.le_of_ble_eq_true rfl, Nat.le_of_ble_eq_true rfl⟩) (zpreV (q := (RX5, TX5, 7)) hE hs hW xC_U rfl) rfl rfl hl.1 rfl (lv_room (Nat.le_of_ble_eq_true rfl)) dL_passed_2 ⟨by show _ ≤ 601; omega, by show _ ≤ 8 * 601; omega⟩) hW (fun E ce q9 k1 H locs h hW hcell hv9 hcl9 => ?_) (fun r k1 H locs h hW => ?_)
  · obtain ⟨rfl, h⟩ := h
    refine vx_catch hown [] ⟨0, 5, 6, 15⟩ [] htb (fun z hz => nomatch hz) (by decide) (by decide) (hts (.classLink RL 15 "java/lang/IllegalArgumentException") (by decide +kernel)) (va_Nw.use rfl (hE.2.2.2.2.2.1 _ (by decide))) hcell hv9 hcl9 ?_
    refine lv_astore_n (lv' := [(2, .ref q9), (0, .ref S0), (1, .int p1)]) hx hb dL_passed_6 rfl hl (by decide) rfl (fun ls hl => ?_)
    refine lv_bipush (v := (-3)) hx hb dL_passed_7 (by decide) ?_
    replace hW := xW_start hW
    refine W.widen (k := 601) (n := 8 * 601) (by omega) (by omega) ?_
    exact z_iret hx hb hr hlocks hW h dL_passed_9
  · replace hW := xW_start hW
    refine W.widen (k := 601) (n := 8 * 601) (by omega) (by omega) ?_
    exact z_iret hx hb hr hlocks hW h dL_passed_5

def wL_due (S0 : Nat) (k0 : kS) (p1 : Int32) (Q : Int32 → kS → Prop) : Prop := wX5_due S0 k0 p1 (fun r u => Q r u) (fun E u => (E = "java/lang/IndexOutOfBoundsException" ∧ Q (-2) u) ∨ (E = "java/lang/IllegalStateException" ∧ Q (-4) u))
set_option maxHeartbeats 8000000 in
set_option maxRecDepth 100000 in
theorem cL_due_ok (l : Launch) (hlt : l.stackTraces = false) (D : zD) (S0 : Nat) (g : zF) (k0 : kS) (p1 : Int32) (Q : Int32 → kS → Prop) (h : wL_due S0 k0 p1 Q) : Met l yL_due wsL_due { frames := 8, cells := 2, slots := 8 * 2, locals := 134 } (zPc D S0 (xR D S0 g k0 k0) [.ref S0, .int p1]) (va_Qi Q (zB D S0 (fun u => xR D S0 g u u)) (zA S0)) 2 (8 * 2) (zA S0) := by
  refine zMetH (cc := cL_due) (maxL := 3) (ret := (some .int)) (hh := [(0, 5, 6, 26), (0, 5, 10, 17)]) (by decide) rfl (Nat.le_of_ble_eq_true rfl) (fun p e s m args below meth c ls hx hb hr hml hown hts hlocks htb hs hE hW hl => ?_)
  replace hl : lv_has ls 3 [(0, .ref S0), (1, .int p1)] := hl
  unfold wL_due at h
  refine lv_aload_n hx hb dL_due_0 rfl (lv_at hl 0 rfl) ?_
  refine lv_iload_n hx hb dL_due_1 rfl (lv_at hl 1 rfl) ?_
  refine zxc_i (vx_runV (As := [.int p1]) (rest := []) ⟨hx, hb, hml, hown, hts⟩ (cX5_due_ok l hlt D S0 g k0 p1 _ _ h) (cwV 1 hts gL_due_X5_due rfl rfl rfl (by decide +kernel) ⟨Nat.le_of_ble_eq_true rfl, Nat.le_of_ble_eq_true rfl⟩) (zpreV (q := (RX5, TX5, 7)) hE hs hW xC_U rfl) rfl rfl hl.1 rfl (lv_room (Nat.le_of_ble_eq_true rfl)) dL_due_2 ⟨by show _ ≤ 2; omega, by show _ ≤ 8 * 2; omega⟩) hW (fun E ce q9 k1 H locs h hW hcell hv9 hcl9 => ?_) (fun r k1 H locs h hW => ?_)
  · rcases h with ⟨rfl, h⟩ | ⟨rfl, h⟩
    · refine vx_catch hown [] ⟨0, 5, 6, 26⟩ [⟨0, 5, 10, 17⟩] htb (fun z hz => nomatch hz) (by decide) (by decide) (hts (.classLink RL 26 "java/lang/IndexOutOfBoundsException") (by decide +kernel)) (va_Nw.use rfl (hE.2.2.2.2.2.1 _ (by decide))) hcell hv9 hcl9 ?_
      refine lv_astore_n (lv' := [(2, .ref q9), (0, .ref S0), (1, .int p1)]) hx hb dL_due_6 rfl hl (by decide) rfl (fun ls hl => ?_)
      refine lv_bipush (v := (-2)) hx hb dL_due_7 (by decide) ?_
      replace hW := xW_start hW
      refine W.widen (k := 2) (n := 8 * 2) (by omega) (by omega) ?_
      exact z_iret hx hb hr hlocks hW h dL_due_9
    · refine vx_catch hown [⟨0, 5, 6, 26⟩] ⟨0, 5, 10, 17⟩ [] htb (fun z hz => by rw [List.mem_singleton.mp hz]; exact Or.inr ⟨(by decide), "java/lang/IndexOutOfBoundsException", hts (.classLink RL 26 "java/lang/IndexOutOfBoundsException") (by decide +kernel), hE.2.2.2.2.2.2.2.2⟩) (by decide) (by decide) (hts (.classLink RL 17 "java/lang/IllegalStateException") (by decide +kernel)) (va_Nw.use rfl (hE.2.2.2.2.2.1 _ (by decide))) hcell hv9 hcl9 ?_
      refine lv_astore_n (lv' := [(2, .ref q9), (0, .ref S0), (1, .int p1)]) hx hb dL_due_10 rfl hl (by decide) rfl (fun ls hl => ?_)
      refine lv_bipush (v := (-4)) hx hb dL_due_11 (by decide) ?_
      replace hW := xW_start hW
      refine W.widen (k := 2) (n := 8 * 2) (by omega) (by omega) ?_
      exact z_iret hx hb hr hlocks hW h dL_due_13
  · replace hW := xW_start hW
    refine W.widen (k := 2) (n := 8 * 2) (by omega) (by omega) ?_
    exact z_iret hx hb hr hlocks hW h dL_due_5

def wL_stateOf (S0 : Nat) (k0 : kS) (p1 : Int32) (Q : Int32 → kS → Prop) : Prop := wX5_state S0 k0 p1 (fun r u => Q r u) (fun E u => (E = "java/lang/IndexOutOfBoundsException" ∧ Q (-2) u))
set_option maxHeartbeats 8000000 in
set_option maxRecDepth 100000 in
theorem cL_stateOf_ok (l : Launch) (hlt : l.stackTraces = false) (D : zD) (S0 : Nat) (g : zF) (k0 : kS) (p1 : Int32) (Q : Int32 → kS → Prop) (h : wL_stateOf S0 k0 p1 Q) : Met l yL_stateOf wsL_stateOf { frames := 8, cells := 1, slots := 8 * 1, locals := 133 } (zPc D S0 (xR D S0 g k0 k0) [.ref S0, .int p1]) (va_Qi Q (zB D S0 (fun u => xR D S0 g u u)) (zA S0)) 1 (8 * 1) (zA S0) := by
  refine zMetH (cc := cL_stateOf) (maxL := 3) (ret := (some .int)) (hh := [(0, 5, 6, 26)]) (by decide) rfl (Nat.le_of_ble_eq_true rfl) (fun p e s m args below meth c ls hx hb hr hml hown hts hlocks htb hs hE hW hl => ?_)
  replace hl : lv_has ls 3 [(0, .ref S0), (1, .int p1)] := hl
  unfold wL_stateOf at h
  refine lv_aload_n hx hb dL_stateOf_0 rfl (lv_at hl 0 rfl) ?_
  refine lv_iload_n hx hb dL_stateOf_1 rfl (lv_at hl 1 rfl) ?_
  refine zxc_i (vx_runV (As := [.int p1]) (rest := []) ⟨hx, hb, hml, hown, hts⟩ (cX5_state_ok l hlt D S0 g k0 p1 _ _ h) (cwV 1 hts gL_stateOf_X5_state rfl rfl rfl (by decide +kernel) ⟨Nat.le_of_ble_eq_true rfl, Nat.le_of_ble_eq_true rfl⟩) (zpreV (q := (RX5, TX5, 7)) hE hs hW xC_U rfl) rfl rfl hl.1 rfl (lv_room (Nat.le_of_ble_eq_true rfl)) dL_stateOf_2 ⟨by show _ ≤ 1; omega, by show _ ≤ 8 * 1; omega⟩) hW (fun E ce q9 k1 H locs h hW hcell hv9 hcl9 => ?_) (fun r k1 H locs h hW => ?_)
  · obtain ⟨rfl, h⟩ := h
    refine vx_catch hown [] ⟨0, 5, 6, 26⟩ [] htb (fun z hz => nomatch hz) (by decide) (by decide) (hts (.classLink RL 26 "java/lang/IndexOutOfBoundsException") (by decide +kernel)) (va_Nw.use rfl (hE.2.2.2.2.2.1 _ (by decide))) hcell hv9 hcl9 ?_
    refine lv_astore_n (lv' := [(2, .ref q9), (0, .ref S0), (1, .int p1)]) hx hb dL_stateOf_6 rfl hl (by decide) rfl (fun ls hl => ?_)
    refine lv_bipush (v := (-2)) hx hb dL_stateOf_7 (by decide) ?_
    replace hW := xW_start hW
    refine W.widen (k := 1) (n := 8 * 1) (by omega) (by omega) ?_
    exact z_iret hx hb hr hlocks hW h dL_stateOf_9
  · replace hW := xW_start hW
    refine W.widen (k := 1) (n := 8 * 1) (by omega) (by omega) ?_
    exact z_iret hx hb hr hlocks hW h dL_stateOf_5

def wL_owed (S0 : Nat) (k0 : kS) (p1 : Int32) (p2 : Int32) (Q : Int32 → kS → Prop) : Prop := wX5_owes S0 k0 p1 p2 (fun r u => Q r u) (fun E u => (E = "java/lang/IllegalArgumentException" ∧ Q (-99) u))
set_option maxHeartbeats 8000000 in
set_option maxRecDepth 100000 in
theorem cL_owed_ok (l : Launch) (hlt : l.stackTraces = false) (D : zD) (S0 : Nat) (g : zF) (k0 : kS) (p1 : Int32) (p2 : Int32) (Q : Int32 → kS → Prop) (h : wL_owed S0 k0 p1 p2 Q) : Met l yL_owed wsL_owed { frames := 7, cells := 1, slots := 8 * 1, locals := 112 } (zPc D S0 (xR D S0 g k0 k0) [.ref S0, .int p1, .int p2]) (va_Qi Q (zB D S0 (fun u => xR D S0 g u u)) (zA S0)) 1 (8 * 1) (zA S0) := by
  refine zMetH (cc := cL_owed) (maxL := 4) (ret := (some .int)) (hh := [(0, 6, 7, 15)]) (by decide) rfl (Nat.le_of_ble_eq_true rfl) (fun p e s m args below meth c ls hx hb hr hml hown hts hlocks htb hs hE hW hl => ?_)
  replace hl : lv_has ls 4 [(0, .ref S0), (1, .int p1), (2, .int p2)] := hl
  unfold wL_owed at h
  refine lv_aload_n hx hb dL_owed_0 rfl (lv_at hl 0 rfl) ?_
  refine lv_iload_n hx hb dL_owed_1 rfl (lv_at hl 1 rfl) ?_
  refine lv_iload_n hx hb dL_owed_2 rfl (lv_at hl 2 rfl) ?_
  refine zxc_i (vx_runV (As := [.int p1, .int p2]) (rest := []) ⟨hx, hb, hml, hown, hts⟩ (cX5_owes_ok l hlt D S0 g k0 p1 p2 _ _ h) (cwV 2 hts gL_owed_X5_owes rfl rfl rfl (by decide +kernel) ⟨Nat.le_of_ble_eq_true rfl, Nat.le_of_ble_eq_true rfl⟩) (zpreV (q := (RX5, TX5, 7)) hE hs hW xC_U rfl) rfl rfl hl.1 rfl (lv_room (Nat.le_of_ble_eq_true rfl)) dL_owed_3 ⟨by show _ ≤ 1; omega, by show _ ≤ 8 * 1; omega⟩) hW (fun E ce q9 k1 H locs h hW hcell hv9 hcl9 => ?_) (fun r k1 H locs h hW => ?_)
  · obtain ⟨rfl, h⟩ := h
    refine vx_catch hown [] ⟨0, 6, 7, 15⟩ [] htb (fun z hz => nomatch hz) (by decide) (by decide) (hts (.classLink RL 15 "java/lang/IllegalArgumentException") (by decide +kernel)) (va_Nw.use rfl (hE.2.2.2.2.2.1 _ (by decide))) hcell hv9 hcl9 ?_
    refine lv_astore_n (lv' := [(3, .ref q9), (0, .ref S0), (1, .int p1), (2, .int p2)]) hx hb dL_owed_7 rfl hl (by decide) rfl (fun ls hl => ?_)
    refine lv_bipush (v := (-99)) hx hb dL_owed_8 (by decide) ?_
    replace hW := xW_start hW
    refine W.widen (k := 1) (n := 8 * 1) (by omega) (by omega) ?_
    exact z_iret hx hb hr hlocks hW h dL_owed_10
  · replace hW := xW_start hW
    refine W.widen (k := 1) (n := 8 * 1) (by omega) (by omega) ?_
    exact z_iret hx hb hr hlocks hW h dL_owed_6

