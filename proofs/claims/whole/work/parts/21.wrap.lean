/-! THE LAW: wrappers that catch, and the body. Its world: the class' k, the reference's m, the row 'out' of one long. -/
def oF (D : zD) (S0 : Nat) (g : zF) (o : Nat → Int64) : zF := fun q => if q = S0 + 29 then some (.inl (D.2.2.2.2.2, 1, .inr (.inl o))) else g q
section OW
variable {D : zD} {S0 : Nat} {g : zF} {k0 k : kS} {o : Nat → Int64} {m : mS}
theorem oC (n : Nat) (f : zF) (h : xR D S0 (oF D S0 g o) k0 k n f) : f (S0 + 29) = some (.inl (D.2.2.2.2.2, 1, .inr (.inl o))) := by
  rw [h.1]
  simp [xF, oF]
theorem oP {x : Int64} {i : Nat} (n : Nat) (f : zF) (h : xR D S0 (oF D S0 g o) k0 k n f) : xR D S0 (oF D S0 g (vp_updL o i x)) k0 k n (va_up f (S0 + 29) (some (.inl (D.2.2.2.2.2, 1, .inr (.inl (vp_updL o i x)))))) := by
  refine ⟨?_, h.2⟩
  rw [h.1]
  funext q
  by_cases hq : q = S0 + 29
  · subst hq
    simp [xF, oF, va_up]
  · simp [xF, oF, va_up, hq]
end OW
/-- a method with handlers, that doesn't throw -/
theorem zMetH {l : Launch} {y : MethodName} {ws ws' : List Cond} {rm : Room} {D : zD} {S0 : Nat} {Rep : Nat → zF → Prop} {av : List Value} {Qc : Array Value → State → Outcome → State → Prop} {mc ms : Nat} {cc : ByteArray} {maxL : Nat} {ret : Option FieldType} {hh : List (Nat × Nat × Nat × Nat)}
    (hy : plainName y.cls = true) (hw : ws = Cond.codeWith y cc maxL ret hh :: ws') (hlen : (lg_sl av).length ≤ maxL)
    (body : ∀ (p : Program) (e : Env) (s : State) (m : MethodId) (args : Array Value) (below : List Frame) (meth : Method) (c : Code) (ls : Array Slot), p.tables.exec = Jvm.exec → c.code = cc → meth.sig.returnType = ret → c.maxLocals = maxL → s.vm.findClass y.cls = some m.cls → (∀ w ∈ ws, w.before args s = true) → meth.locks = false → c.exceptionTable.toList = tableOf hh → S0 ≤ s.heap.size → zE D S0 s → zW D S0 Rep s.heap s.heap [] → lv_has ls maxL (lv_args 0 av) →
      W p l e rm s m args below meth c s.heap [] 0 0 (MQ below Qc args s mc ms (zA S0)) (F0 m 0 ls [])) : Met l y ws rm (zPc D S0 Rep av) Qc mc ms (zA S0) := by
  refine va_MetW (cc := cc) (maxL := maxL) (ret := ret) hy hw ?_
  intro p e s m args below meth c s₁ B hml hv
  obtain ⟨rfl, hs, hE, f, hP, hd, hR⟩ := hv
  rw [lg_entry_eq]
  have hts := atoms_spec (ws := ws) B.pre
  exact body p e s m _ below meth c _ B.exec B.bytes B.returns hml (findClass_of_methodNamed B.named) hts B.notSynchronized (vx_table (x := y) B (hts _ (by rw [hw]; exact List.mem_cons_self))) hs hE ⟨f, hP, hd, va_S.rf, hR⟩ (lv_entry av hlen)
def wL_addCopy (S0 : Nat) (k0 : kS) (o : Nat → Int64) (p1 : Int32) (p2 : Int32) (Q : Int32 → kS × (Nat → Int64) → Prop) : Prop := wX5_addCopy S0 k0 p1 p2 (fun r u => Q 0 (u, vp_updL o 0 r.toInt64)) (fun E u => (E = "java/lang/IllegalArgumentException" ∧ Q 1 (u, o)) ∨ (E = "java/lang/IllegalStateException" ∧ Q 2 (u, o)))
set_option maxHeartbeats 8000000 in
set_option maxRecDepth 100000 in
theorem cL_addCopy_ok (l : Launch) (hlt : l.stackTraces = false) (D : zD) (S0 : Nat) (g : zF) (k0 : kS) (o : Nat → Int64) (p1 : Int32) (p2 : Int32) (Q : Int32 → kS × (Nat → Int64) → Prop) (h : wL_addCopy S0 k0 o p1 p2 Q) : Met l yL_addCopy wsL_addCopy { frames := 7, cells := 2, slots := 8 * (2), locals := 115 } (zPc D S0 (xR D S0 (oF D S0 g o) k0 k0) [.ref S0, .int p1, .int p2, .ref (S0 + 29)]) (va_Qi Q (zB D S0 (fun u => xR D S0 (oF D S0 g u.2) k0 u.1)) (zA S0)) (2) (8 * (2)) (zA S0) := by
  refine zMetH (cc := cL_addCopy) (maxL := 5) (ret := (some .int)) (hh := [(0, 10, 13, 13), (0, 10, 17, 15)]) (by decide) rfl (Nat.le_of_ble_eq_true rfl) (fun p e s m args below meth c ls hx hb hr hml hown hts hlocks htb hs hE hW hl => ?_)
  replace hl : lv_has ls 5 [(0, .ref S0), (1, .int p1), (2, .int p2), (3, .ref (S0 + 29))] := hl
  unfold wL_addCopy at h
  refine lv_aload_n hx hb dL_addCopy_0 rfl (lv_at hl 3 rfl) ?_
  refine lv_iconst (v := 0) hx hb dL_addCopy_1 (by decide) ?_
  refine lv_aload_n hx hb dL_addCopy_2 rfl (lv_at hl 0 rfl) ?_
  refine lv_iload_n hx hb dL_addCopy_3 rfl (lv_at hl 1 rfl) ?_
  refine lv_iload_n hx hb dL_addCopy_4 rfl (lv_at hl 2 rfl) ?_
  have hle := xW_kle hW
  refine zxc_i (vx_runV (As := [.int p1, .int p2]) (rest := [.int 0, .ref (S0 + 29)]) ⟨hx, hb, hml, hown, hts⟩ (cX5_addCopy_ok l hlt D S0 (oF D S0 g o) k0 p1 p2 _ _ h) (cwV 2 hts gL_addCopy_X5_addCopy rfl rfl rfl (by decide +kernel) ⟨Nat.le_of_ble_eq_true rfl, Nat.le_of_ble_eq_true rfl⟩) (zpreV (q := (RX5, TX5, 7)) hE hs hW xC_U rfl) rfl rfl hl.1 rfl (lv_room (Nat.le_of_ble_eq_true rfl)) dL_addCopy_5 ⟨by show _ ≤ 2; omega, by show _ ≤ 8 * (2); omega⟩) hW (fun E ce q9 k1 H locs h hW hcell hv9 hcl9 => ?_) (fun r k1 H locs h hW => ?_)
  · rcases h with ⟨rfl, h⟩ | ⟨rfl, h⟩
    · refine vx_catch hown [] ⟨0, 10, 13, 13⟩ [⟨0, 10, 17, 15⟩] htb (fun z hz => nomatch hz) (by decide) (by decide) (hts (.classLink RL 13 "java/lang/IllegalArgumentException") (by decide +kernel)) (va_Nw.use rfl (hE.2.2.2.2.2.1 _ (by decide))) hcell hv9 hcl9 ?_
      refine lv_astore (lv' := [(4, .ref q9), (0, .ref S0), (1, .int p1), (2, .int p2), (3, .ref (S0 + 29))]) hx hb dL_addCopy_13 hl (by decide) rfl (fun ls hl => ?_)
      refine lv_iconst (v := 1) hx hb dL_addCopy_15 (by decide) ?_
      refine W.widen (k := 2) (n := 8 * (2)) (by omega) (by omega) ?_
      exact z_iret (u := (k1, o)) hx hb hr hlocks hW h dL_addCopy_16
    · refine vx_catch hown [⟨0, 10, 13, 13⟩] ⟨0, 10, 17, 15⟩ [] htb (fun z hz => by rw [List.mem_singleton.mp hz]; exact Or.inr ⟨(by decide), "java/lang/IllegalArgumentException", hts (.classLink RL 13 "java/lang/IllegalArgumentException") (by decide +kernel), hE.2.2.2.2.2.2.2.1⟩) (by decide) (by decide) (hts (.classLink RL 15 "java/lang/IllegalStateException") (by decide +kernel)) (va_Nw.use rfl (hE.2.2.2.2.2.1 _ (by decide))) hcell hv9 hcl9 ?_
      refine lv_astore (lv' := [(4, .ref q9), (0, .ref S0), (1, .int p1), (2, .int p2), (3, .ref (S0 + 29))]) hx hb dL_addCopy_17 hl (by decide) rfl (fun ls hl => ?_)
      refine lv_iconst (v := 2) hx hb dL_addCopy_19 (by decide) ?_
      refine W.widen (k := 2) (n := 8 * (2)) (by omega) (by omega) ?_
      exact z_iret (u := (k1, o)) hx hb hr hlocks hW h dL_addCopy_20
  · refine lv_i2l hx hb dL_addCopy_8 rfl ?_
    refine zw_last hx hb hE.1 hW oC (by unfold vp_in; decide) dL_addCopy_9 oP (fun H locs hW => ?_)
    refine lv_goto (tgt := 21) hx hb dL_addCopy_10 (by decide) ?_
    refine lv_iconst (v := 0) hx hb dL_addCopy_21 (by decide) ?_
    refine W.widen (k := 2) (n := 8 * (2)) (by omega) (by omega) ?_
    exact z_iret (u := (k1, vp_updL o 0 r.toInt64)) hx hb hr hlocks hW h dL_addCopy_22

def wL_inHandsOf (S0 : Nat) (k0 : kS) (o : Nat → Int64) (p1 : Int32) (Q : Int32 → kS × (Nat → Int64) → Prop) : Prop := wX5_inHandsOf S0 k0 p1 (fun r u => Q 0 (u, vp_updL o 0 r.toInt64)) (fun E u => (E = "java/lang/IndexOutOfBoundsException" ∧ Q 1 (u, o)))
set_option maxHeartbeats 8000000 in
set_option maxRecDepth 100000 in
theorem cL_inHandsOf_ok (l : Launch) (hlt : l.stackTraces = false) (D : zD) (S0 : Nat) (g : zF) (k0 : kS) (o : Nat → Int64) (p1 : Int32) (Q : Int32 → kS × (Nat → Int64) → Prop) (h : wL_inHandsOf S0 k0 o p1 Q) : Met l yL_inHandsOf wsL_inHandsOf { frames := 8, cells := 1, slots := 8 * (1), locals := 133 } (zPc D S0 (xR D S0 (oF D S0 g o) k0 k0) [.ref S0, .int p1, .ref (S0 + 29)]) (va_Qi Q (zB D S0 (fun u => xR D S0 (oF D S0 g u.2) k0 u.1)) (zA S0)) (1) (8 * (1)) (zA S0) := by
  refine zMetH (cc := cL_inHandsOf) (maxL := 4) (ret := (some .int)) (hh := [(0, 9, 12, 21)]) (by decide) rfl (Nat.le_of_ble_eq_true rfl) (fun p e s m args below meth c ls hx hb hr hml hown hts hlocks htb hs hE hW hl => ?_)
  replace hl : lv_has ls 4 [(0, .ref S0), (1, .int p1), (2, .ref (S0 + 29))] := hl
  unfold wL_inHandsOf at h
  refine lv_aload_n hx hb dL_inHandsOf_0 rfl (lv_at hl 2 rfl) ?_
  refine lv_iconst (v := 0) hx hb dL_inHandsOf_1 (by decide) ?_
  refine lv_aload_n hx hb dL_inHandsOf_2 rfl (lv_at hl 0 rfl) ?_
  refine lv_iload_n hx hb dL_inHandsOf_3 rfl (lv_at hl 1 rfl) ?_
  have hle := xW_kle hW
  refine zxc_i (vx_runV (As := [.int p1]) (rest := [.int 0, .ref (S0 + 29)]) ⟨hx, hb, hml, hown, hts⟩ (cX5_inHandsOf_ok l hlt D S0 (oF D S0 g o) k0 p1 _ _ h) (cwV 1 hts gL_inHandsOf_X5_inHandsOf rfl rfl rfl (by decide +kernel) ⟨Nat.le_of_ble_eq_true rfl, Nat.le_of_ble_eq_true rfl⟩) (zpreV (q := (RX5, TX5, 7)) hE hs hW xC_U rfl) rfl rfl hl.1 rfl (lv_room (Nat.le_of_ble_eq_true rfl)) dL_inHandsOf_4 ⟨by show _ ≤ 1; omega, by show _ ≤ 8 * (1); omega⟩) hW (fun E ce q9 k1 H locs h hW hcell hv9 hcl9 => ?_) (fun r k1 H locs h hW => ?_)
  · obtain ⟨rfl, h⟩ := h
    refine vx_catch hown [] ⟨0, 9, 12, 21⟩ [] htb (fun z hz => nomatch hz) (by decide) (by decide) (hts (.classLink RL 21 "java/lang/IndexOutOfBoundsException") (by decide +kernel)) (va_Nw.use rfl (hE.2.2.2.2.2.1 _ (by decide))) hcell hv9 hcl9 ?_
    refine lv_astore_n (lv' := [(3, .ref q9), (0, .ref S0), (1, .int p1), (2, .ref (S0 + 29))]) hx hb dL_inHandsOf_12 rfl hl (by decide) rfl (fun ls hl => ?_)
    refine lv_iconst (v := 1) hx hb dL_inHandsOf_13 (by decide) ?_
    refine W.widen (k := 1) (n := 8 * (1)) (by omega) (by omega) ?_
    exact z_iret (u := (k1, o)) hx hb hr hlocks hW h dL_inHandsOf_14
  · refine lv_i2l hx hb dL_inHandsOf_7 rfl ?_
    refine zw_last hx hb hE.1 hW oC (by unfold vp_in; decide) dL_inHandsOf_8 oP (fun H locs hW => ?_)
    refine lv_goto (tgt := 15) hx hb dL_inHandsOf_9 (by decide) ?_
    refine lv_iconst (v := 0) hx hb dL_inHandsOf_15 (by decide) ?_
    refine W.widen (k := 1) (n := 8 * (1)) (by omega) (by omega) ?_
    exact z_iret (u := (k1, vp_updL o 0 r.toInt64)) hx hb hr hlocks hW h dL_inHandsOf_16

def wL_isFree (S0 : Nat) (k0 : kS) (o : Nat → Int64) (p1 : Int32) (Q : Int32 → kS × (Nat → Int64) → Prop) : Prop := wX5_isFree S0 k0 p1 (fun r u => Q 0 (u, vp_updL o 0 (if r = 0 then 0 else 1))) (fun E u => (E = "java/lang/IndexOutOfBoundsException" ∧ Q 1 (u, o)))
set_option maxHeartbeats 8000000 in
set_option maxRecDepth 100000 in
theorem cL_isFree_ok (l : Launch) (hlt : l.stackTraces = false) (D : zD) (S0 : Nat) (g : zF) (k0 : kS) (o : Nat → Int64) (p1 : Int32) (Q : Int32 → kS × (Nat → Int64) → Prop) (h : wL_isFree S0 k0 o p1 Q) : Met l yL_isFree wsL_isFree { frames := 8, cells := 1, slots := 8 * (1), locals := 133 } (zPc D S0 (xR D S0 (oF D S0 g o) k0 k0) [.ref S0, .int p1, .ref (S0 + 29)]) (va_Qi Q (zB D S0 (fun u => xR D S0 (oF D S0 g u.2) k0 u.1)) (zA S0)) (1) (8 * (1)) (zA S0) := by
  refine zMetH (cc := cL_isFree) (maxL := 4) (ret := (some .int)) (hh := [(0, 16, 19, 21)]) (by decide) rfl (Nat.le_of_ble_eq_true rfl) (fun p e s m args below meth c ls hx hb hr hml hown hts hlocks htb hs hE hW hl => ?_)
  replace hl : lv_has ls 4 [(0, .ref S0), (1, .int p1), (2, .ref (S0 + 29))] := hl
  unfold wL_isFree at h
  refine lv_aload_n hx hb dL_isFree_0 rfl (lv_at hl 2 rfl) ?_
  refine lv_iconst (v := 0) hx hb dL_isFree_1 (by decide) ?_
  refine lv_aload_n hx hb dL_isFree_2 rfl (lv_at hl 0 rfl) ?_
  refine lv_iload_n hx hb dL_isFree_3 rfl (lv_at hl 1 rfl) ?_
  have hle := xW_kle hW
  refine zxc_i (vx_runV (As := [.int p1]) (rest := [.int 0, .ref (S0 + 29)]) ⟨hx, hb, hml, hown, hts⟩ (cX5_isFree_ok l hlt D S0 (oF D S0 g o) k0 p1 _ _ h) (cwV 1 hts gL_isFree_X5_isFree rfl rfl rfl (by decide +kernel) ⟨Nat.le_of_ble_eq_true rfl, Nat.le_of_ble_eq_true rfl⟩) (zpreV (q := (RX5, TX5, 7)) hE hs hW xC_U rfl) rfl rfl hl.1 rfl (lv_room (Nat.le_of_ble_eq_true rfl)) dL_isFree_4 ⟨by show _ ≤ 1; omega, by show _ ≤ 8 * (1); omega⟩) hW (fun E ce q9 k1 H locs h hW hcell hv9 hcl9 => ?_) (fun r k1 H locs h hW => ?_)
  · obtain ⟨rfl, h⟩ := h
    refine vx_catch hown [] ⟨0, 16, 19, 21⟩ [] htb (fun z hz => nomatch hz) (by decide) (by decide) (hts (.classLink RL 21 "java/lang/IndexOutOfBoundsException") (by decide +kernel)) (va_Nw.use rfl (hE.2.2.2.2.2.1 _ (by decide))) hcell hv9 hcl9 ?_
    refine lv_astore_n (lv' := [(3, .ref q9), (0, .ref S0), (1, .int p1), (2, .ref (S0 + 29))]) hx hb dL_isFree_19 rfl hl (by decide) rfl (fun ls hl => ?_)
    refine lv_iconst (v := 1) hx hb dL_isFree_20 (by decide) ?_
    refine W.widen (k := 1) (n := 8 * (1)) (by omega) (by omega) ?_
    exact z_iret (u := (k1, o)) hx hb hr hlocks hW h dL_isFree_21
  · obtain ⟨h, -⟩ := h
    refine lv_if_eq (tgt := 14) hx hb dL_isFree_7 (by decide) (fun c1 => ?_) (fun c1 => ?_)
    · rw [if_pos c1] at h
      refine lv_lconst (v := 0) hx hb dL_isFree_14 (by decide) ?_
      refine zw_last hx hb hE.1 hW oC (by unfold vp_in; decide) dL_isFree_15 oP (fun H locs hW => ?_)
      refine lv_goto (tgt := 22) hx hb dL_isFree_16 (by decide) ?_
      refine lv_iconst (v := 0) hx hb dL_isFree_22 (by decide) ?_
      refine W.widen (k := 1) (n := 8 * (1)) (by omega) (by omega) ?_
      exact z_iret (u := (k1, vp_updL o 0 0)) hx hb hr hlocks hW h dL_isFree_23
    · rw [if_neg c1] at h
      refine lv_lconst (v := 1) hx hb dL_isFree_10 (by decide) ?_
      refine lv_goto (tgt := 15) hx hb dL_isFree_11 (by decide) ?_
      refine zw_last hx hb hE.1 hW oC (by unfold vp_in; decide) dL_isFree_15 oP (fun H locs hW => ?_)
      refine lv_goto (tgt := 22) hx hb dL_isFree_16 (by decide) ?_
      refine lv_iconst (v := 0) hx hb dL_isFree_22 (by decide) ?_
      refine W.widen (k := 1) (n := 8 * (1)) (by omega) (by omega) ?_
      exact z_iret (u := (k1, vp_updL o 0 1)) hx hb hr hlocks hW h dL_isFree_23

def wL_listed (S0 : Nat) (k0 : kS) (o : Nat → Int64) (p1 : Int32) (Q : Int32 → kS × (Nat → Int64) → Prop) : Prop := wX5_listed S0 k0 p1 (fun r u => Q 0 (u, vp_updL o 0 r.toInt64)) (fun E u => (E = "java/lang/IndexOutOfBoundsException" ∧ Q 1 (u, o)))
set_option maxHeartbeats 8000000 in
set_option maxRecDepth 100000 in
theorem cL_listed_ok (l : Launch) (hlt : l.stackTraces = false) (D : zD) (S0 : Nat) (g : zF) (k0 : kS) (o : Nat → Int64) (p1 : Int32) (Q : Int32 → kS × (Nat → Int64) → Prop) (h : wL_listed S0 k0 o p1 Q) : Met l yL_listed wsL_listed { frames := 8, cells := 1, slots := 8 * (1), locals := 133 } (zPc D S0 (xR D S0 (oF D S0 g o) k0 k0) [.ref S0, .int p1, .ref (S0 + 29)]) (va_Qi Q (zB D S0 (fun u => xR D S0 (oF D S0 g u.2) k0 u.1)) (zA S0)) (1) (8 * (1)) (zA S0) := by
  refine zMetH (cc := cL_listed) (maxL := 4) (ret := (some .int)) (hh := [(0, 9, 12, 21)]) (by decide) rfl (Nat.le_of_ble_eq_true rfl) (fun p e s m args below meth c ls hx hb hr hml hown hts hlocks htb hs hE hW hl => ?_)
  replace hl : lv_has ls 4 [(0, .ref S0), (1, .int p1), (2, .ref (S0 + 29))] := hl
  unfold wL_listed at h
  refine lv_aload_n hx hb dL_listed_0 rfl (lv_at hl 2 rfl) ?_
  refine lv_iconst (v := 0) hx hb dL_listed_1 (by decide) ?_
  refine lv_aload_n hx hb dL_listed_2 rfl (lv_at hl 0 rfl) ?_
  refine lv_iload_n hx hb dL_listed_3 rfl (lv_at hl 1 rfl) ?_
  have hle := xW_kle hW
  refine zxc_i (vx_runV (As := [.int p1]) (rest := [.int 0, .ref (S0 + 29)]) ⟨hx, hb, hml, hown, hts⟩ (cX5_listed_ok l hlt D S0 (oF D S0 g o) k0 p1 _ _ h) (cwV 1 hts gL_listed_X5_listed rfl rfl rfl (by decide +kernel) ⟨Nat.le_of_ble_eq_true rfl, Nat.le_of_ble_eq_true rfl⟩) (zpreV (q := (RX5, TX5, 7)) hE hs hW xC_U rfl) rfl rfl hl.1 rfl (lv_room (Nat.le_of_ble_eq_true rfl)) dL_listed_4 ⟨by show _ ≤ 1; omega, by show _ ≤ 8 * (1); omega⟩) hW (fun E ce q9 k1 H locs h hW hcell hv9 hcl9 => ?_) (fun r k1 H locs h hW => ?_)
  · obtain ⟨rfl, h⟩ := h
    refine vx_catch hown [] ⟨0, 9, 12, 21⟩ [] htb (fun z hz => nomatch hz) (by decide) (by decide) (hts (.classLink RL 21 "java/lang/IndexOutOfBoundsException") (by decide +kernel)) (va_Nw.use rfl (hE.2.2.2.2.2.1 _ (by decide))) hcell hv9 hcl9 ?_
    refine lv_astore_n (lv' := [(3, .ref q9), (0, .ref S0), (1, .int p1), (2, .ref (S0 + 29))]) hx hb dL_listed_12 rfl hl (by decide) rfl (fun ls hl => ?_)
    refine lv_iconst (v := 1) hx hb dL_listed_13 (by decide) ?_
    refine W.widen (k := 1) (n := 8 * (1)) (by omega) (by omega) ?_
    exact z_iret (u := (k1, o)) hx hb hr hlocks hW h dL_listed_14
  · refine lv_i2l hx hb dL_listed_7 rfl ?_
    refine zw_last hx hb hE.1 hW oC (by unfold vp_in; decide) dL_listed_8 oP (fun H locs hW => ?_)
    refine lv_goto (tgt := 15) hx hb dL_listed_9 (by decide) ?_
    refine lv_iconst (v := 0) hx hb dL_listed_15 (by decide) ?_
    refine W.widen (k := 1) (n := 8 * (1)) (by omega) (by omega) ?_
    exact z_iret (u := (k1, vp_updL o 0 r.toInt64)) hx hb hr hlocks hW h dL_listed_16

def wL_harm (S0 : Nat) (k0 : kS) (o : Nat → Int64) (p1 : Int32) (Q : Int32 → kS × (Nat → Int64) → Prop) : Prop := wX5_harm S0 k0 p1 (fun r u => Q 0 (u, vp_updL o 0 r.toInt64)) (fun E u => (E = "java/lang/IndexOutOfBoundsException" ∧ Q 1 (u, o)) ∨ (E = "java/lang/IllegalStateException" ∧ Q 2 (u, o)))
set_option maxHeartbeats 8000000 in
set_option maxRecDepth 100000 in
theorem cL_harm_ok (l : Launch) (hlt : l.stackTraces = false) (D : zD) (S0 : Nat) (g : zF) (k0 : kS) (o : Nat → Int64) (p1 : Int32) (Q : Int32 → kS × (Nat → Int64) → Prop) (h : wL_harm S0 k0 o p1 Q) : Met l yL_harm wsL_harm { frames := 8, cells := 2, slots := 8 * (2), locals := 134 } (zPc D S0 (xR D S0 (oF D S0 g o) k0 k0) [.ref S0, .int p1, .ref (S0 + 29)]) (va_Qi Q (zB D S0 (fun u => xR D S0 (oF D S0 g u.2) k0 u.1)) (zA S0)) (2) (8 * (2)) (zA S0) := by
  refine zMetH (cc := cL_harm) (maxL := 4) (ret := (some .int)) (hh := [(0, 9, 12, 21), (0, 9, 15, 15)]) (by decide) rfl (Nat.le_of_ble_eq_true rfl) (fun p e s m args below meth c ls hx hb hr hml hown hts hlocks htb hs hE hW hl => ?_)
  replace hl : lv_has ls 4 [(0, .ref S0), (1, .int p1), (2, .ref (S0 + 29))] := hl
  unfold wL_harm at h
  refine lv_aload_n hx hb dL_harm_0 rfl (lv_at hl 2 rfl) ?_
  refine lv_iconst (v := 0) hx hb dL_harm_1 (by decide) ?_
  refine lv_aload_n hx hb dL_harm_2 rfl (lv_at hl 0 rfl) ?_
  refine lv_iload_n hx hb dL_harm_3 rfl (lv_at hl 1 rfl) ?_
  have hle := xW_kle hW
  refine zxc_i (vx_runV (As := [.int p1]) (rest := [.int 0, .ref (S0 + 29)]) ⟨hx, hb, hml, hown, hts⟩ (cX5_harm_ok l hlt D S0 (oF D S0 g o) k0 p1 _ _ h) (cwV 1 hts gL_harm_X5_harm rfl rfl rfl (by decide +kernel) ⟨Nat.le_of_ble_eq_true rfl, Nat.le_of_ble_eq_true rfl⟩) (zpreV (q := (RX5, TX5, 7)) hE hs hW xC_U rfl) rfl rfl hl.1 rfl (lv_room (Nat.le_of_ble_eq_true rfl)) dL_harm_4 ⟨by show _ ≤ 2; omega, by show _ ≤ 8 * (2); omega⟩) hW (fun E ce q9 k1 H locs h hW hcell hv9 hcl9 => ?_) (fun r k1 H locs h hW => ?_)
  · rcases h with ⟨rfl, h⟩ | ⟨rfl, h⟩
    · refine vx_catch hown [] ⟨0, 9, 12, 21⟩ [⟨0, 9, 15, 15⟩] htb (fun z hz => nomatch hz) (by decide) (by decide) (hts (.classLink RL 21 "java/lang/IndexOutOfBoundsException") (by decide +kernel)) (va_Nw.use rfl (hE.2.2.2.2.2.1 _ (by decide))) hcell hv9 hcl9 ?_
      refine lv_astore_n (lv' := [(3, .ref q9), (0, .ref S0), (1, .int p1), (2, .ref (S0 + 29))]) hx hb dL_harm_12 rfl hl (by decide) rfl (fun ls hl => ?_)
      refine lv_iconst (v := 1) hx hb dL_harm_13 (by decide) ?_
      refine W.widen (k := 2) (n := 8 * (2)) (by omega) (by omega) ?_
      exact z_iret (u := (k1, o)) hx hb hr hlocks hW h dL_harm_14
    · refine vx_catch hown [⟨0, 9, 12, 21⟩] ⟨0, 9, 15, 15⟩ [] htb (fun z hz => by rw [List.mem_singleton.mp hz]; exact Or.inr ⟨(by decide), "java/lang/IndexOutOfBoundsException", hts (.classLink RL 21 "java/lang/IndexOutOfBoundsException") (by decide +kernel), hE.2.2.2.2.2.2.2.2⟩) (by decide) (by decide) (hts (.classLink RL 15 "java/lang/IllegalStateException") (by decide +kernel)) (va_Nw.use rfl (hE.2.2.2.2.2.1 _ (by decide))) hcell hv9 hcl9 ?_
      refine lv_astore_n (lv' := [(3, .ref q9), (0, .ref S0), (1, .int p1), (2, .ref (S0 + 29))]) hx hb dL_harm_15 rfl hl (by decide) rfl (fun ls hl => ?_)
      refine lv_iconst (v := 2) hx hb dL_harm_16 (by decide) ?_
      refine W.widen (k := 2) (n := 8 * (2)) (by omega) (by omega) ?_
      exact z_iret (u := (k1, o)) hx hb hr hlocks hW h dL_harm_17
  · refine lv_i2l hx hb dL_harm_7 rfl ?_
    refine zw_last hx hb hE.1 hW oC (by unfold vp_in; decide) dL_harm_8 oP (fun H locs hW => ?_)
    refine lv_goto (tgt := 18) hx hb dL_harm_9 (by decide) ?_
    refine lv_iconst (v := 0) hx hb dL_harm_18 (by decide) ?_
    refine W.widen (k := 2) (n := 8 * (2)) (by omega) (by omega) ?_
    exact z_iret (u := (k1, vp_updL o 0 r.toInt64)) hx hb hr hlocks hW h dL_harm_19

def wL_look (S0 : Nat) (k0 : kS) (o : Nat → Int64) (p1 : Int32) (Q : Int32 → kS × (Nat → Int64) → Prop) : Prop := wX5_look S0 k0 p1 (fun r u => Q 0 (u, vp_updL o 0 r.toInt64)) (fun E u => (E = "java/lang/IndexOutOfBoundsException" ∧ Q 1 (u, o)) ∨ (E = "java/lang/IllegalStateException" ∧ Q 2 (u, o)))
set_option maxHeartbeats 8000000 in
set_option maxRecDepth 100000 in
theorem cL_look_ok (l : Launch) (hlt : l.stackTraces = false) (D : zD) (S0 : Nat) (g : zF) (k0 : kS) (o : Nat → Int64) (p1 : Int32) (Q : Int32 → kS × (Nat → Int64) → Prop) (h : wL_look S0 k0 o p1 Q) : Met l yL_look wsL_look { frames := 8, cells := 2, slots := 8 * (2), locals := 134 } (zPc D S0 (xR D S0 (oF D S0 g o) k0 k0) [.ref S0, .int p1, .ref (S0 + 29)]) (va_Qi Q (zB D S0 (fun u => xR D S0 (oF D S0 g u.2) k0 u.1)) (zA S0)) (2) (8 * (2)) (zA S0) := by
  refine zMetH (cc := cL_look) (maxL := 4) (ret := (some .int)) (hh := [(0, 9, 12, 21), (0, 9, 15, 15)]) (by decide) rfl (Nat.le_of_ble_eq_true rfl) (fun p e s m args below meth c ls hx hb hr hml hown hts hlocks htb hs hE hW hl => ?_)
  replace hl : lv_has ls 4 [(0, .ref S0), (1, .int p1), (2, .ref (S0 + 29))] := hl
  unfold wL_look at h
  refine lv_aload_n hx hb dL_look_0 rfl (lv_at hl 2 rfl) ?_
  refine lv_iconst (v := 0) hx hb dL_look_1 (by decide) ?_
  refine lv_aload_n hx hb dL_look_2 rfl (lv_at hl 0 rfl) ?_
  refine lv_iload_n hx hb dL_look_3 rfl (lv_at hl 1 rfl) ?_
  have hle := xW_kle hW
  refine zxc_i (vx_runV (As := [.int p1]) (rest := [.int 0, .ref (S0 + 29)]) ⟨hx, hb, hml, hown, hts⟩ (cX5_look_ok l hlt D S0 (oF D S0 g o) k0 p1 _ _ h) (cwV 1 hts gL_look_X5_look rfl rfl rfl (by decide +kernel) ⟨Nat.le_of_ble_eq_true rfl, Nat.le_of_ble_eq_true rfl⟩) (zpreV (q := (RX5, TX5, 7)) hE hs hW xC_U rfl) rfl rfl hl.1 rfl (lv_room (Nat.le_of_ble_eq_true rfl)) dL_look_4 ⟨by show _ ≤ 2; omega, by show _ ≤ 8 * (2); omega⟩) hW (fun E ce q9 k1 H locs h hW hcell hv9 hcl9 => ?_) (fun r k1 H locs h hW => ?_)
  · rcases h with ⟨rfl, h⟩ | ⟨rfl, h⟩
    · refine vx_catch hown [] ⟨0, 9, 12, 21⟩ [⟨0, 9, 15, 15⟩] htb (fun z hz => nomatch hz) (by decide) (by decide) (hts (.classLink RL 21 "java/lang/IndexOutOfBoundsException") (by decide +kernel)) (va_Nw.use rfl (hE.2.2.2.2.2.1 _ (by decide))) hcell hv9 hcl9 ?_
      refine lv_astore_n (lv' := [(3, .ref q9), (0, .ref S0), (1, .int p1), (2, .ref (S0 + 29))]) hx hb dL_look_12 rfl hl (by decide) rfl (fun ls hl => ?_)
      refine lv_iconst (v := 1) hx hb dL_look_13 (by decide) ?_
      refine W.widen (k := 2) (n := 8 * (2)) (by omega) (by omega) ?_
      exact z_iret (u := (k1, o)) hx hb hr hlocks hW h dL_look_14
    · refine vx_catch hown [⟨0, 9, 12, 21⟩] ⟨0, 9, 15, 15⟩ [] htb (fun z hz => by rw [List.mem_singleton.mp hz]; exact Or.inr ⟨(by decide), "java/lang/IndexOutOfBoundsException", hts (.classLink RL 21 "java/lang/IndexOutOfBoundsException") (by decide +kernel), hE.2.2.2.2.2.2.2.2⟩) (by decide) (by decide) (hts (.classLink RL 15 "java/lang/IllegalStateException") (by decide +kernel)) (va_Nw.use rfl (hE.2.2.2.2.2.1 _ (by decide))) hcell hv9 hcl9 ?_
      refine lv_astore_n (lv' := [(3, .ref q9), (0, .ref S0), (1, .int p1), (2, .ref (S0 + 29))]) hx hb dL_look_15 rfl hl (by decide) rfl (fun ls hl => ?_)
      refine lv_iconst (v := 2) hx hb dL_look_16 (by decide) ?_
      refine W.widen (k := 2) (n := 8 * (2)) (by omega) (by omega) ?_
      exact z_iret (u := (k1, o)) hx hb hr hlocks hW h dL_look_17
  · refine lv_i2l hx hb dL_look_7 rfl ?_
    refine zw_last hx hb hE.1 hW oC (by unfold vp_in; decide) dL_look_8 oP (fun H locs hW => ?_)
    refine lv_goto (tgt := 18) hx hb dL_look_9 (by decide) ?_
    refine lv_iconst (v := 0) hx hb dL_look_18 (by decide) ?_
    refine W.widen (k := 2) (n := 8 * (2)) (by omega) (by omega) ?_
    exact z_iret (u := (k1, vp_updL o 0 r.toInt64)) hx hb hr hlocks hW h dL_look_19

def wL_mend (S0 : Nat) (k0 : kS) (o : Nat → Int64) (p1 : Int32) (Q : Int32 → kS × (Nat → Int64) → Prop) : Prop := wX5_mend S0 k0 p1 (fun u => Q 0 (u, o)) (fun E u => (E = "java/lang/IndexOutOfBoundsException" ∧ Q 1 (u, o)) ∨ (E = "java/lang/IllegalStateException" ∧ Q 2 (u, o)))
set_option maxHeartbeats 8000000 in
set_option maxRecDepth 100000 in
theorem cL_mend_ok (l : Launch) (hlt : l.stackTraces = false) (D : zD) (S0 : Nat) (g : zF) (k0 : kS) (o : Nat → Int64) (p1 : Int32) (Q : Int32 → kS × (Nat → Int64) → Prop) (h : wL_mend S0 k0 o p1 Q) : Met l yL_mend wsL_mend { frames := 8, cells := 2, slots := 8 * (2), locals := 134 } (zPc D S0 (xR D S0 (oF D S0 g o) k0 k0) [.ref S0, .int p1]) (va_Qi Q (zB D S0 (fun u => xR D S0 (oF D S0 g u.2) k0 u.1)) (zA S0)) (2) (8 * (2)) (zA S0) := by
  refine zMetH (cc := cL_mend) (maxL := 3) (ret := (some .int)) (hh := [(0, 5, 8, 21), (0, 5, 11, 15)]) (by decide) rfl (Nat.le_of_ble_eq_true rfl) (fun p e s m args below meth c ls hx hb hr hml hown hts hlocks htb hs hE hW hl => ?_)
  replace hl : lv_has ls 3 [(0, .ref S0), (1, .int p1)] := hl
  unfold wL_mend at h
  refine lv_aload_n hx hb dL_mend_0 rfl (lv_at hl 0 rfl) ?_
  refine lv_iload_n hx hb dL_mend_1 rfl (lv_at hl 1 rfl) ?_
  have hle := xW_kle hW
  refine zxc_v (vx_runV (As := [.int p1]) (rest := []) ⟨hx, hb, hml, hown, hts⟩ (cX5_mend_ok l hlt D S0 (oF D S0 g o) k0 p1 _ _ h) (cwV 1 hts gL_mend_X5_mend rfl rfl rfl (by decide +kernel) ⟨Nat.le_of_ble_eq_true rfl, Nat.le_of_ble_eq_true rfl⟩) (zpreV (q := (RX5, TX5, 7)) hE hs hW xC_U rfl) rfl rfl hl.1 rfl (lv_room (Nat.le_of_ble_eq_true rfl)) dL_mend_2 ⟨by show _ ≤ 2; omega, by show _ ≤ 8 * (2); omega⟩) hW (fun E ce q9 k1 H locs h hW hcell hv9 hcl9 => ?_) (fun k1 H locs h hW => ?_)
  · rcases h with ⟨rfl, h⟩ | ⟨rfl, h⟩
    · refine vx_catch hown [] ⟨0, 5, 8, 21⟩ [⟨0, 5, 11, 15⟩] htb (fun z hz => nomatch hz) (by decide) (by decide) (hts (.classLink RL 21 "java/lang/IndexOutOfBoundsException") (by decide +kernel)) (va_Nw.use rfl (hE.2.2.2.2.2.1 _ (by decide))) hcell hv9 hcl9 ?_
      refine lv_astore_n (lv' := [(2, .ref q9), (0, .ref S0), (1, .int p1)]) hx hb dL_mend_8 rfl hl (by decide) rfl (fun ls hl => ?_)
      refine lv_iconst (v := 1) hx hb dL_mend_9 (by decide) ?_
      refine W.widen (k := 2) (n := 8 * (2)) (by omega) (by omega) ?_
      exact z_iret (u := (k1, o)) hx hb hr hlocks hW h dL_mend_10
    · refine vx_catch hown [⟨0, 5, 8, 21⟩] ⟨0, 5, 11, 15⟩ [] htb (fun z hz => by rw [List.mem_singleton.mp hz]; exact Or.inr ⟨(by decide), "java/lang/IndexOutOfBoundsException", hts (.classLink RL 21 "java/lang/IndexOutOfBoundsException") (by decide +kernel), hE.2.2.2.2.2.2.2.2⟩) (by decide) (by decide) (hts (.classLink RL 15 "java/lang/IllegalStateException") (by decide +kernel)) (va_Nw.use rfl (hE.2.2.2.2.2.1 _ (by decide))) hcell hv9 hcl9 ?_
      refine lv_astore_n (lv' := [(2, .ref q9), (0, .ref S0), (1, .int p1)]) hx hb dL_mend_11 rfl hl (by decide) rfl (fun ls hl => ?_)
      refine lv_iconst (v := 2) hx hb dL_mend_12 (by decide) ?_
      refine W.widen (k := 2) (n := 8 * (2)) (by omega) (by omega) ?_
      exact z_iret (u := (k1, o)) hx hb hr hlocks hW h dL_mend_13
  · refine lv_goto (tgt := 14) hx hb dL_mend_5 (by decide) ?_
    refine lv_iconst (v := 0) hx hb dL_mend_14 (by decide) ?_
    refine W.widen (k := 2) (n := 8 * (2)) (by omega) (by omega) ?_
    exact z_iret (u := (k1, o)) hx hb hr hlocks hW h dL_mend_15

def wL_request (S0 : Nat) (k0 : kS) (o : Nat → Int64) (p1 : Int32) (p2 : Int32) (Q : Int32 → kS × (Nat → Int64) → Prop) : Prop := wX5_request S0 k0 p1 p2 (fun r u => Q 0 (u, vp_updL o 0 r.toInt64)) (fun E u => (E = "java/lang/IllegalArgumentException" ∧ Q 1 (u, o)) ∨ (E = "java/lang/IllegalStateException" ∧ Q 2 (u, o)))
set_option maxHeartbeats 8000000 in
set_option maxRecDepth 100000 in
theorem cL_request_ok (l : Launch) (hlt : l.stackTraces = false) (D : zD) (S0 : Nat) (g : zF) (k0 : kS) (o : Nat → Int64) (p1 : Int32) (p2 : Int32) (Q : Int32 → kS × (Nat → Int64) → Prop) (h : wL_request S0 k0 o p1 p2 Q) : Met l yL_request wsL_request { frames := 7, cells := 2, slots := 8 * (2), locals := 117 } (zPc D S0 (xR D S0 (oF D S0 g o) k0 k0) [.ref S0, .int p1, .int p2, .ref (S0 + 29)]) (va_Qi Q (zB D S0 (fun u => xR D S0 (oF D S0 g u.2) k0 u.1)) (zA S0)) (2) (8 * (2)) (zA S0) := by
  refine zMetH (cc := cL_request) (maxL := 5) (ret := (some .int)) (hh := [(0, 10, 13, 13), (0, 10, 17, 15)]) (by decide) rfl (Nat.le_of_ble_eq_true rfl) (fun p e s m args below meth c ls hx hb hr hml hown hts hlocks htb hs hE hW hl => ?_)
  replace hl : lv_has ls 5 [(0, .ref S0), (1, .int p1), (2, .int p2), (3, .ref (S0 + 29))] := hl
  unfold wL_request at h
  refine lv_aload_n hx hb dL_request_0 rfl (lv_at hl 3 rfl) ?_
  refine lv_iconst (v := 0) hx hb dL_request_1 (by decide) ?_
  refine lv_aload_n hx hb dL_request_2 rfl (lv_at hl 0 rfl) ?_
  refine lv_iload_n hx hb dL_request_3 rfl (lv_at hl 1 rfl) ?_
  refine lv_iload_n hx hb dL_request_4 rfl (lv_at hl 2 rfl) ?_
  have hle := xW_kle hW
  refine zxc_i (vx_runV (As := [.int p1, .int p2]) (rest := [.int 0, .ref (S0 + 29)]) ⟨hx, hb, hml, hown, hts⟩ (cX5_request_ok l hlt D S0 (oF D S0 g o) k0 p1 p2 _ _ h) (cwV 2 hts gL_request_X5_request rfl rfl rfl (by decide +kernel) ⟨Nat.le_of_ble_eq_true rfl, Nat.le_of_ble_eq_true rfl⟩) (zpreV (q := (RX5, TX5, 7)) hE hs hW xC_U rfl) rfl rfl hl.1 rfl (lv_room (Nat.le_of_ble_eq_true rfl)) dL_request_5 ⟨by show _ ≤ 2; omega, by show _ ≤ 8 * (2); omega⟩) hW (fun E ce q9 k1 H locs h hW hcell hv9 hcl9 => ?_) (fun r k1 H locs h hW => ?_)
  · rcases h with ⟨rfl, h⟩ | ⟨rfl, h⟩
    · refine vx_catch hown [] ⟨0, 10, 13, 13⟩ [⟨0, 10, 17, 15⟩] htb (fun z hz => nomatch hz) (by decide) (by decide) (hts (.classLink RL 13 "java/lang/IllegalArgumentException") (by decide +kernel)) (va_Nw.use rfl (hE.2.2.2.2.2.1 _ (by decide))) hcell hv9 hcl9 ?_
      refine lv_astore (lv' := [(4, .ref q9), (0, .ref S0), (1, .int p1), (2, .int p2), (3, .ref (S0 + 29))]) hx hb dL_request_13 hl (by decide) rfl (fun ls hl => ?_)
      refine lv_iconst (v := 1) hx hb dL_request_15 (by decide) ?_
      refine W.widen (k := 2) (n := 8 * (2)) (by omega) (by omega) ?_
      exact z_iret (u := (k1, o)) hx hb hr hlocks hW h dL_request_16
    · refine vx_catch hown [⟨0, 10, 13, 13⟩] ⟨0, 10, 17, 15⟩ [] htb (fun z hz => by rw [List.mem_singleton.mp hz]; exact Or.inr ⟨(by decide), "java/lang/IllegalArgumentException", hts (.classLink RL 13 "java/lang/IllegalArgumentException") (by decide +kernel), hE.2.2.2.2.2.2.2.1⟩) (by decide) (by decide) (hts (.classLink RL 15 "java/lang/IllegalStateException") (by decide +kernel)) (va_Nw.use rfl (hE.2.2.2.2.2.1 _ (by decide))) hcell hv9 hcl9 ?_
      refine lv_astore (lv' := [(4, .ref q9), (0, .ref S0), (1, .int p1), (2, .int p2), (3, .ref (S0 + 29))]) hx hb dL_request_17 hl (by decide) rfl (fun ls hl => ?_)
      refine lv_iconst (v := 2) hx hb dL_request_19 (by decide) ?_
      refine W.widen (k := 2) (n := 8 * (2)) (by omega) (by omega) ?_
      exact z_iret (u := (k1, o)) hx hb hr hlocks hW h dL_request_20
  · refine lv_i2l hx hb dL_request_8 rfl ?_
    refine zw_last hx hb hE.1 hW oC (by unfold vp_in; decide) dL_request_9 oP (fun H locs hW => ?_)
    refine lv_goto (tgt := 21) hx hb dL_request_10 (by decide) ?_
    refine lv_iconst (v := 0) hx hb dL_request_21 (by decide) ?_
    refine W.widen (k := 2) (n := 8 * (2)) (by omega) (by omega) ?_
    exact z_iret (u := (k1, vp_updL o 0 r.toInt64)) hx hb hr hlocks hW h dL_request_22

def wL_state (S0 : Nat) (k0 : kS) (o : Nat → Int64) (p1 : Int32) (Q : Int32 → kS × (Nat → Int64) → Prop) : Prop := wX5_state S0 k0 p1 (fun r u => Q 0 (u, vp_updL o 0 r.toInt64)) (fun E u => (E = "java/lang/IndexOutOfBoundsException" ∧ Q 1 (u, o)))
set_option maxHeartbeats 8000000 in
set_option maxRecDepth 100000 in
theorem cL_state_ok (l : Launch) (hlt : l.stackTraces = false) (D : zD) (S0 : Nat) (g : zF) (k0 : kS) (o : Nat → Int64) (p1 : Int32) (Q : Int32 → kS × (Nat → Int64) → Prop) (h : wL_state S0 k0 o p1 Q) : Met l yL_state wsL_state { frames := 8, cells := 1, slots := 8 * (1), locals := 133 } (zPc D S0 (xR D S0 (oF D S0 g o) k0 k0) [.ref S0, .int p1, .ref (S0 + 29)]) (va_Qi Q (zB D S0 (fun u => xR D S0 (oF D S0 g u.2) k0 u.1)) (zA S0)) (1) (8 * (1)) (zA S0) := by
  refine zMetH (cc := cL_state) (maxL := 4) (ret := (some .int)) (hh := [(0, 9, 12, 21)]) (by decide) rfl (Nat.le_of_ble_eq_true rfl) (fun p e s m args below meth c ls hx hb hr hml hown hts hlocks htb hs hE hW hl => ?_)
  replace hl : lv_has ls 4 [(0, .ref S0), (1, .int p1), (2, .ref (S0 + 29))] := hl
  unfold wL_state at h
  refine lv_aload_n hx hb dL_state_0 rfl (lv_at hl 2 rfl) ?_
  refine lv_iconst (v := 0) hx hb dL_state_1 (by decide) ?_
  refine lv_aload_n hx hb dL_state_2 rfl (lv_at hl 0 rfl) ?_
  refine lv_iload_n hx hb dL_state_3 rfl (lv_at hl 1 rfl) ?_
  have hle := xW_kle hW
  refine zxc_i (vx_runV (As := [.int p1]) (rest := [.int 0, .ref (S0 + 29)]) ⟨hx, hb, hml, hown, hts⟩ (cX5_state_ok l hlt D S0 (oF D S0 g o) k0 p1 _ _ h) (cwV 1 hts gL_state_X5_state rfl rfl rfl (by decide +kernel) ⟨Nat.le_of_ble_eq_true rfl, Nat.le_of_ble_eq_true rfl⟩) (zpreV (q := (RX5, TX5, 7)) hE hs hW xC_U rfl) rfl rfl hl.1 rfl (lv_room (Nat.le_of_ble_eq_true rfl)) dL_state_4 ⟨by show _ ≤ 1; omega, by show _ ≤ 8 * (1); omega⟩) hW (fun E ce q9 k1 H locs h hW hcell hv9 hcl9 => ?_) (fun r k1 H locs h hW => ?_)
  · obtain ⟨rfl, h⟩ := h
    refine vx_catch hown [] ⟨0, 9, 12, 21⟩ [] htb (fun z hz => nomatch hz) (by decide) (by decide) (hts (.classLink RL 21 "java/lang/IndexOutOfBoundsException") (by decide +kernel)) (va_Nw.use rfl (hE.2.2.2.2.2.1 _ (by decide))) hcell hv9 hcl9 ?_
    refine lv_astore_n (lv' := [(3, .ref q9), (0, .ref S0), (1, .int p1), (2, .ref (S0 + 29))]) hx hb dL_state_12 rfl hl (by decide) rfl (fun ls hl => ?_)
    refine lv_iconst (v := 1) hx hb dL_state_13 (by decide) ?_
    refine W.widen (k := 1) (n := 8 * (1)) (by omega) (by omega) ?_
    exact z_iret (u := (k1, o)) hx hb hr hlocks hW h dL_state_14
  · refine lv_i2l hx hb dL_state_7 rfl ?_
    refine zw_last hx hb hE.1 hW oC (by unfold vp_in; decide) dL_state_8 oP (fun H locs hW => ?_)
    refine lv_goto (tgt := 15) hx hb dL_state_9 (by decide) ?_
    refine lv_iconst (v := 0) hx hb dL_state_15 (by decide) ?_
    refine W.widen (k := 1) (n := 8 * (1)) (by omega) (by omega) ?_
    exact z_iret (u := (k1, vp_updL o 0 r.toInt64)) hx hb hr hlocks hW h dL_state_16

def wL_copyOf (S0 : Nat) (k0 : kS) (o : Nat → Int64) (p1 : Int32) (Q : Int32 → kS × (Nat → Int64) → Prop) : Prop := wX5_copyOf S0 k0 p1 (fun r u => Q 0 (u, vp_updL o 0 r.toInt64)) (fun E u => (E = "java/lang/IndexOutOfBoundsException" ∧ Q 1 (u, o)))
set_option maxHeartbeats 8000000 in
set_option maxRecDepth 100000 in
theorem cL_copyOf_ok (l : Launch) (hlt : l.stackTraces = false) (D : zD) (S0 : Nat) (g : zF) (k0 : kS) (o : Nat → Int64) (p1 : Int32) (Q : Int32 → kS × (Nat → Int64) → Prop) (h : wL_copyOf S0 k0 o p1 Q) : Met l yL_copyOf wsL_copyOf { frames := 8, cells := 1, slots := 8 * (1), locals := 134 } (zPc D S0 (xR D S0 (oF D S0 g o) k0 k0) [.ref S0, .int p1, .ref (S0 + 29)]) (va_Qi Q (zB D S0 (fun u => xR D S0 (oF D S0 g u.2) k0 u.1)) (zA S0)) (1) (8 * (1)) (zA S0) := by
  refine zMetH (cc := cL_copyOf) (maxL := 4) (ret := (some .int)) (hh := [(0, 9, 12, 21)]) (by decide) rfl (Nat.le_of_ble_eq_true rfl) (fun p e s m args below meth c ls hx hb hr hml hown hts hlocks htb hs hE hW hl => ?_)
  replace hl : lv_has ls 4 [(0, .ref S0), (1, .int p1), (2, .ref (S0 + 29))] := hl
  unfold wL_copyOf at h
  refine lv_aload_n hx hb dL_copyOf_0 rfl (lv_at hl 2 rfl) ?_
  refine lv_iconst (v := 0) hx hb dL_copyOf_1 (by decide) ?_
  refine lv_aload_n hx hb dL_copyOf_2 rfl (lv_at hl 0 rfl) ?_
  refine lv_iload_n hx hb dL_copyOf_3 rfl (lv_at hl 1 rfl) ?_
  have hle := xW_kle hW
  refine zxc_i (vx_runV (As := [.int p1]) (rest := [.int 0, .ref (S0 + 29)]) ⟨hx, hb, hml, hown, hts⟩ (cX5_copyOf_ok l hlt D S0 (oF D S0 g o) k0 p1 _ _ h) (cwV 1 hts gL_copyOf_X5_copyOf rfl rfl rfl (by decide +kernel) ⟨Nat.le_of_ble_eq_true rfl, Nat.le_of_ble_eq_true rfl⟩) (zpreV (q := (RX5, TX5, 7)) hE hs hW xC_U rfl) rfl rfl hl.1 rfl (lv_room (Nat.le_of_ble_eq_true rfl)) dL_copyOf_4 ⟨by show _ ≤ 1; omega, by show _ ≤ 8 * (1); omega⟩) hW (fun E ce q9 k1 H locs h hW hcell hv9 hcl9 => ?_) (fun r k1 H locs h hW => ?_)
  · obtain ⟨rfl, h⟩ := h
    refine vx_catch hown [] ⟨0, 9, 12, 21⟩ [] htb (fun z hz => nomatch hz) (by decide) (by decide) (hts (.classLink RL 21 "java/lang/IndexOutOfBoundsException") (by decide +kernel)) (va_Nw.use rfl (hE.2.2.2.2.2.1 _ (by decide))) hcell hv9 hcl9 ?_
    refine lv_astore_n (lv' := [(3, .ref q9), (0, .ref S0), (1, .int p1), (2, .ref (S0 + 29))]) hx hb dL_copyOf_12 rfl hl (by decide) rfl (fun ls hl => ?_)
    refine lv_iconst (v := 1) hx hb dL_copyOf_13 (by decide) ?_
    refine W.widen (k := 1) (n := 8 * (1)) (by omega) (by omega) ?_
    exact z_iret (u := (k1, o)) hx hb hr hlocks hW h dL_copyOf_14
  · refine lv_i2l hx hb dL_copyOf_7 rfl ?_
    refine zw_last hx hb hE.1 hW oC (by unfold vp_in; decide) dL_copyOf_8 oP (fun H locs hW => ?_)
    refine lv_goto (tgt := 15) hx hb dL_copyOf_9 (by decide) ?_
    refine lv_iconst (v := 0) hx hb dL_copyOf_15 (by decide) ?_
    refine W.widen (k := 1) (n := 8 * (1)) (by omega) (by omega) ?_
    exact z_iret (u := (k1, vp_updL o 0 r.toInt64)) hx hb hr hlocks hW h dL_copyOf_16

def wL_due (S0 : Nat) (k0 : kS) (o : Nat → Int64) (p1 : Int32) (Q : Int32 → kS × (Nat → Int64) → Prop) : Prop := wX5_due S0 k0 p1 (fun r u => Q 0 (u, vp_updL o 0 r.toInt64)) (fun E u => (E = "java/lang/IndexOutOfBoundsException" ∧ Q 1 (u, o)) ∨ (E = "java/lang/IllegalStateException" ∧ Q 2 (u, o)))
set_option maxHeartbeats 8000000 in
set_option maxRecDepth 100000 in
theorem cL_due_ok (l : Launch) (hlt : l.stackTraces = false) (D : zD) (S0 : Nat) (g : zF) (k0 : kS) (o : Nat → Int64) (p1 : Int32) (Q : Int32 → kS × (Nat → Int64) → Prop) (h : wL_due S0 k0 o p1 Q) : Met l yL_due wsL_due { frames := 8, cells := 2, slots := 8 * (2), locals := 134 } (zPc D S0 (xR D S0 (oF D S0 g o) k0 k0) [.ref S0, .int p1, .ref (S0 + 29)]) (va_Qi Q (zB D S0 (fun u => xR D S0 (oF D S0 g u.2) k0 u.1)) (zA S0)) (2) (8 * (2)) (zA S0) := by
  refine zMetH (cc := cL_due) (maxL := 4) (ret := (some .int)) (hh := [(0, 9, 12, 21), (0, 9, 15, 15)]) (by decide) rfl (Nat.le_of_ble_eq_true rfl) (fun p e s m args below meth c ls hx hb hr hml hown hts hlocks htb hs hE hW hl => ?_)
  replace hl : lv_has ls 4 [(0, .ref S0), (1, .int p1), (2, .ref (S0 + 29))] := hl
  unfold wL_due at h
  refine lv_aload_n hx hb dL_due_0 rfl (lv_at hl 2 rfl) ?_
  refine lv_iconst (v := 0) hx hb dL_due_1 (by decide) ?_
  refine lv_aload_n hx hb dL_due_2 rfl (lv_at hl 0 rfl) ?_
  refine lv_iload_n hx hb dL_due_3 rfl (lv_at hl 1 rfl) ?_
  have hle := xW_kle hW
  refine zxc_i (vx_runV (As := [.int p1]) (rest := [.int 0, .ref (S0 + 29)]) ⟨hx, hb, hml, hown, hts⟩ (cX5_due_ok l hlt D S0 (oF D S0 g o) k0 p1 _ _ h) (cwV 1 hts gL_due_X5_due rfl rfl rfl (by decide +kernel) ⟨Nat.le_of_ble_eq_true rfl, Nat.le_of_ble_eq_true rfl⟩) (zpreV (q := (RX5, TX5, 7)) hE hs hW xC_U rfl) rfl rfl hl.1 rfl (lv_room (Nat.le_of_ble_eq_true rfl)) dL_due_4 ⟨by show _ ≤ 2; omega, by show _ ≤ 8 * (2); omega⟩) hW (fun E ce q9 k1 H locs h hW hcell hv9 hcl9 => ?_) (fun r k1 H locs h hW => ?_)
  · rcases h with ⟨rfl, h⟩ | ⟨rfl, h⟩
    · refine vx_catch hown [] ⟨0, 9, 12, 21⟩ [⟨0, 9, 15, 15⟩] htb (fun z hz => nomatch hz) (by decide) (by decide) (hts (.classLink RL 21 "java/lang/IndexOutOfBoundsException") (by decide +kernel)) (va_Nw.use rfl (hE.2.2.2.2.2.1 _ (by decide))) hcell hv9 hcl9 ?_
      refine lv_astore_n (lv' := [(3, .ref q9), (0, .ref S0), (1, .int p1), (2, .ref (S0 + 29))]) hx hb dL_due_12 rfl hl (by decide) rfl (fun ls hl => ?_)
      refine lv_iconst (v := 1) hx hb dL_due_13 (by decide) ?_
      refine W.widen (k := 2) (n := 8 * (2)) (by omega) (by omega) ?_
      exact z_iret (u := (k1, o)) hx hb hr hlocks hW h dL_due_14
    · refine vx_catch hown [⟨0, 9, 12, 21⟩] ⟨0, 9, 15, 15⟩ [] htb (fun z hz => by rw [List.mem_singleton.mp hz]; exact Or.inr ⟨(by decide), "java/lang/IndexOutOfBoundsException", hts (.classLink RL 21 "java/lang/IndexOutOfBoundsException") (by decide +kernel), hE.2.2.2.2.2.2.2.2⟩) (by decide) (by decide) (hts (.classLink RL 15 "java/lang/IllegalStateException") (by decide +kernel)) (va_Nw.use rfl (hE.2.2.2.2.2.1 _ (by decide))) hcell hv9 hcl9 ?_
      refine lv_astore_n (lv' := [(3, .ref q9), (0, .ref S0), (1, .int p1), (2, .ref (S0 + 29))]) hx hb dL_due_15 rfl hl (by decide) rfl (fun ls hl => ?_)
      refine lv_iconst (v := 2) hx hb dL_due_16 (by decide) ?_
      refine W.widen (k := 2) (n := 8 * (2)) (by omega) (by omega) ?_
      exact z_iret (u := (k1, o)) hx hb hr hlocks hW h dL_due_17
  · refine lv_i2l hx hb dL_due_7 rfl ?_
    refine zw_last hx hb hE.1 hW oC (by unfold vp_in; decide) dL_due_8 oP (fun H locs hW => ?_)
    refine lv_goto (tgt := 18) hx hb dL_due_9 (by decide) ?_
    refine lv_iconst (v := 0) hx hb dL_due_18 (by decide) ?_
    refine W.widen (k := 2) (n := 8 * (2)) (by omega) (by omega) ?_
    exact z_iret (u := (k1, vp_updL o 0 r.toInt64)) hx hb hr hlocks hW h dL_due_19

def wL_renew (S0 : Nat) (k0 : kS) (o : Nat → Int64) (p1 : Int32) (Q : Int32 → kS × (Nat → Int64) → Prop) : Prop := wX5_renew S0 k0 p1 (fun r u => Q 0 (u, vp_updL o 0 r.toInt64)) (fun E u => (E = "java/lang/IndexOutOfBoundsException" ∧ Q 1 (u, o)) ∨ (E = "java/lang/IllegalStateException" ∧ Q 2 (u, o)))
set_option maxHeartbeats 8000000 in
set_option maxRecDepth 100000 in
theorem cL_renew_ok (l : Launch) (hlt : l.stackTraces = false) (D : zD) (S0 : Nat) (g : zF) (k0 : kS) (o : Nat → Int64) (p1 : Int32) (Q : Int32 → kS × (Nat → Int64) → Prop) (h : wL_renew S0 k0 o p1 Q) : Met l yL_renew wsL_renew { frames := 8, cells := 2, slots := 8 * (2), locals := 135 } (zPc D S0 (xR D S0 (oF D S0 g o) k0 k0) [.ref S0, .int p1, .ref (S0 + 29)]) (va_Qi Q (zB D S0 (fun u => xR D S0 (oF D S0 g u.2) k0 u.1)) (zA S0)) (2) (8 * (2)) (zA S0) := by
  refine zMetH (cc := cL_renew) (maxL := 4) (ret := (some .int)) (hh := [(0, 9, 12, 21), (0, 9, 15, 15)]) (by decide) rfl (Nat.le_of_ble_eq_true rfl) (fun p e s m args below meth c ls hx hb hr hml hown hts hlocks htb hs hE hW hl => ?_)
  replace hl : lv_has ls 4 [(0, .ref S0), (1, .int p1), (2, .ref (S0 + 29))] := hl
  unfold wL_renew at h
  refine lv_aload_n hx hb dL_renew_0 rfl (lv_at hl 2 rfl) ?_
  refine lv_iconst (v := 0) hx hb dL_renew_1 (by decide) ?_
  refine lv_aload_n hx hb dL_renew_2 rfl (lv_at hl 0 rfl) ?_
  refine lv_iload_n hx hb dL_renew_3 rfl (lv_at hl 1 rfl) ?_
  have hle := xW_kle hW
  refine zxc_i (vx_runV (As := [.int p1]) (rest := [.int 0, .ref (S0 + 29)]) ⟨hx, hb, hml, hown, hts⟩ (cX5_renew_ok l hlt D S0 (oF D S0 g o) k0 p1 _ _ h) (cwV 1 hts gL_renew_X5_renew rfl rfl rfl (by decide +kernel) ⟨Nat.le_of_ble_eq_true rfl, Nat.le_of_ble_eq_true rfl⟩) (zpreV (q := (RX5, TX5, 7)) hE hs hW xC_U rfl) rfl rfl hl.1 rfl (lv_room (Nat.le_of_ble_eq_true rfl)) dL_renew_4 ⟨by show _ ≤ 2; omega, by show _ ≤ 8 * (2); omega⟩) hW (fun E ce q9 k1 H locs h hW hcell hv9 hcl9 => ?_) (fun r k1 H locs h hW => ?_)
  · rcases h with ⟨rfl, h⟩ | ⟨rfl, h⟩
    · refine vx_catch hown [] ⟨0, 9, 12, 21⟩ [⟨0, 9, 15, 15⟩] htb (fun z hz => nomatch hz) (by decide) (by decide) (hts (.classLink RL 21 "java/lang/IndexOutOfBoundsException") (by decide +kernel)) (va_Nw.use rfl (hE.2.2.2.2.2.1 _ (by decide))) hcell hv9 hcl9 ?_
      refine lv_astore_n (lv' := [(3, .ref q9), (0, .ref S0), (1, .int p1), (2, .ref (S0 + 29))]) hx hb dL_renew_12 rfl hl (by decide) rfl (fun ls hl => ?_)
      refine lv_iconst (v := 1) hx hb dL_renew_13 (by decide) ?_
      refine W.widen (k := 2) (n := 8 * (2)) (by omega) (by omega) ?_
      exact z_iret (u := (k1, o)) hx hb hr hlocks hW h dL_renew_14
    · refine vx_catch hown [⟨0, 9, 12, 21⟩] ⟨0, 9, 15, 15⟩ [] htb (fun z hz => by rw [List.mem_singleton.mp hz]; exact Or.inr ⟨(by decide), "java/lang/IndexOutOfBoundsException", hts (.classLink RL 21 "java/lang/IndexOutOfBoundsException") (by decide +kernel), hE.2.2.2.2.2.2.2.2⟩) (by decide) (by decide) (hts (.classLink RL 15 "java/lang/IllegalStateException") (by decide +kernel)) (va_Nw.use rfl (hE.2.2.2.2.2.1 _ (by decide))) hcell hv9 hcl9 ?_
      refine lv_astore_n (lv' := [(3, .ref q9), (0, .ref S0), (1, .int p1), (2, .ref (S0 + 29))]) hx hb dL_renew_15 rfl hl (by decide) rfl (fun ls hl => ?_)
      refine lv_iconst (v := 2) hx hb dL_renew_16 (by decide) ?_
      refine W.widen (k := 2) (n := 8 * (2)) (by omega) (by omega) ?_
      exact z_iret (u := (k1, o)) hx hb hr hlocks hW h dL_renew_17
  · refine lv_i2l hx hb dL_renew_7 rfl ?_
    refine zw_last hx hb hE.1 hW oC (by unfold vp_in; decide) dL_renew_8 oP (fun H locs hW => ?_)
    refine lv_goto (tgt := 18) hx hb dL_renew_9 (by decide) ?_
    refine lv_iconst (v := 0) hx hb dL_renew_18 (by decide) ?_
    refine W.widen (k := 2) (n := 8 * (2)) (by omega) (by omega) ?_
    exact z_iret (u := (k1, vp_updL o 0 r.toInt64)) hx hb hr hlocks hW h dL_renew_19

def wL_recall (S0 : Nat) (k0 : kS) (o : Nat → Int64) (p1 : Int32) (Q : Int32 → kS × (Nat → Int64) → Prop) : Prop := wX5_recall S0 k0 p1 (fun r u => Q 0 (u, vp_updL o 0 r.toInt64)) (fun E u => (E = "java/lang/IndexOutOfBoundsException" ∧ Q 1 (u, o)) ∨ (E = "java/lang/IllegalStateException" ∧ Q 2 (u, o)))
set_option maxHeartbeats 8000000 in
set_option maxRecDepth 100000 in
theorem cL_recall_ok (l : Launch) (hlt : l.stackTraces = false) (D : zD) (S0 : Nat) (g : zF) (k0 : kS) (o : Nat → Int64) (p1 : Int32) (Q : Int32 → kS × (Nat → Int64) → Prop) (h : wL_recall S0 k0 o p1 Q) : Met l yL_recall wsL_recall { frames := 8, cells := 2, slots := 8 * (2), locals := 135 } (zPc D S0 (xR D S0 (oF D S0 g o) k0 k0) [.ref S0, .int p1, .ref (S0 + 29)]) (va_Qi Q (zB D S0 (fun u => xR D S0 (oF D S0 g u.2) k0 u.1)) (zA S0)) (2) (8 * (2)) (zA S0) := by
  refine zMetH (cc := cL_recall) (maxL := 4) (ret := (some .int)) (hh := [(0, 9, 12, 21), (0, 9, 15, 15)]) (by decide) rfl (Nat.le_of_ble_eq_true rfl) (fun p e s m args below meth c ls hx hb hr hml hown hts hlocks htb hs hE hW hl => ?_)
  replace hl : lv_has ls 4 [(0, .ref S0), (1, .int p1), (2, .ref (S0 + 29))] := hl
  unfold wL_recall at h
  refine lv_aload_n hx hb dL_recall_0 rfl (lv_at hl 2 rfl) ?_
  refine lv_iconst (v := 0) hx hb dL_recall_1 (by decide) ?_
  refine lv_aload_n hx hb dL_recall_2 rfl (lv_at hl 0 rfl) ?_
  refine lv_iload_n hx hb dL_recall_3 rfl (lv_at hl 1 rfl) ?_
  have hle := xW_kle hW
  refine zxc_i (vx_runV (As := [.int p1]) (rest := [.int 0, .ref (S0 + 29)]) ⟨hx, hb, hml, hown, hts⟩ (cX5_recall_ok l hlt D S0 (oF D S0 g o) k0 p1 _ _ h) (cwV 1 hts gL_recall_X5_recall rfl rfl rfl (by decide +kernel) ⟨Nat.le_of_ble_eq_true rfl, Nat.le_of_ble_eq_true rfl⟩) (zpreV (q := (RX5, TX5, 7)) hE hs hW xC_U rfl) rfl rfl hl.1 rfl (lv_room (Nat.le_of_ble_eq_true rfl)) dL_recall_4 ⟨by show _ ≤ 2; omega, by show _ ≤ 8 * (2); omega⟩) hW (fun E ce q9 k1 H locs h hW hcell hv9 hcl9 => ?_) (fun r k1 H locs h hW => ?_)
  · rcases h with ⟨rfl, h⟩ | ⟨rfl, h⟩
    · refine vx_catch hown [] ⟨0, 9, 12, 21⟩ [⟨0, 9, 15, 15⟩] htb (fun z hz => nomatch hz) (by decide) (by decide) (hts (.classLink RL 21 "java/lang/IndexOutOfBoundsException") (by decide +kernel)) (va_Nw.use rfl (hE.2.2.2.2.2.1 _ (by decide))) hcell hv9 hcl9 ?_
      refine lv_astore_n (lv' := [(3, .ref q9), (0, .ref S0), (1, .int p1), (2, .ref (S0 + 29))]) hx hb dL_recall_12 rfl hl (by decide) rfl (fun ls hl => ?_)
      refine lv_iconst (v := 1) hx hb dL_recall_13 (by decide) ?_
      refine W.widen (k := 2) (n := 8 * (2)) (by omega) (by omega) ?_
      exact z_iret (u := (k1, o)) hx hb hr hlocks hW h dL_recall_14
    · refine vx_catch hown [⟨0, 9, 12, 21⟩] ⟨0, 9, 15, 15⟩ [] htb (fun z hz => by rw [List.mem_singleton.mp hz]; exact Or.inr ⟨(by decide), "java/lang/IndexOutOfBoundsException", hts (.classLink RL 21 "java/lang/IndexOutOfBoundsException") (by decide +kernel), hE.2.2.2.2.2.2.2.2⟩) (by decide) (by decide) (hts (.classLink RL 15 "java/lang/IllegalStateException") (by decide +kernel)) (va_Nw.use rfl (hE.2.2.2.2.2.1 _ (by decide))) hcell hv9 hcl9 ?_
      refine lv_astore_n (lv' := [(3, .ref q9), (0, .ref S0), (1, .int p1), (2, .ref (S0 + 29))]) hx hb dL_recall_15 rfl hl (by decide) rfl (fun ls hl => ?_)
      refine lv_iconst (v := 2) hx hb dL_recall_16 (by decide) ?_
      refine W.widen (k := 2) (n := 8 * (2)) (by omega) (by omega) ?_
      exact z_iret (u := (k1, o)) hx hb hr hlocks hW h dL_recall_17
  · refine lv_i2l hx hb dL_recall_7 rfl ?_
    refine zw_last hx hb hE.1 hW oC (by unfold vp_in; decide) dL_recall_8 oP (fun H locs hW => ?_)
    refine lv_goto (tgt := 18) hx hb dL_recall_9 (by decide) ?_
    refine lv_iconst (v := 0) hx hb dL_recall_18 (by decide) ?_
    refine W.widen (k := 2) (n := 8 * (2)) (by omega) (by omega) ?_
    exact z_iret (u := (k1, vp_updL o 0 r.toInt64)) hx hb hr hlocks hW h dL_recall_19

def wL_sendBack (S0 : Nat) (k0 : kS) (o : Nat → Int64) (p1 : Int32) (Q : Int32 → kS × (Nat → Int64) → Prop) : Prop := wX5_sendBack S0 k0 p1 (fun r u => Q 0 (u, vp_updL o 0 r.toInt64)) (fun E u => (E = "java/lang/IndexOutOfBoundsException" ∧ Q 1 (u, o)) ∨ (E = "java/lang/IllegalStateException" ∧ Q 2 (u, o)))
set_option maxHeartbeats 8000000 in
set_option maxRecDepth 100000 in
theorem cL_sendBack_ok (l : Launch) (hlt : l.stackTraces = false) (D : zD) (S0 : Nat) (g : zF) (k0 : kS) (o : Nat → Int64) (p1 : Int32) (Q : Int32 → kS × (Nat → Int64) → Prop) (h : wL_sendBack S0 k0 o p1 Q) : Met l yL_sendBack wsL_sendBack { frames := 8, cells := 2, slots := 8 * (2), locals := 136 } (zPc D S0 (xR D S0 (oF D S0 g o) k0 k0) [.ref S0, .int p1, .ref (S0 + 29)]) (va_Qi Q (zB D S0 (fun u => xR D S0 (oF D S0 g u.2) k0 u.1)) (zA S0)) (2) (8 * (2)) (zA S0) := by
  refine zMetH (cc := cL_sendBack) (maxL := 4) (ret := (some .int)) (hh := [(0, 9, 12, 21), (0, 9, 15, 15)]) (by decide) rfl (Nat.le_of_ble_eq_true rfl) (fun p e s m args below meth c ls hx hb hr hml hown hts hlocks htb hs hE hW hl => ?_)
  replace hl : lv_has ls 4 [(0, .ref S0), (1, .int p1), (2, .ref (S0 + 29))] := hl
  unfold wL_sendBack at h
  refine lv_aload_n hx hb dL_sendBack_0 rfl (lv_at hl 2 rfl) ?_
  refine lv_iconst (v := 0) hx hb dL_sendBack_1 (by decide) ?_
  refine lv_aload_n hx hb dL_sendBack_2 rfl (lv_at hl 0 rfl) ?_
  refine lv_iload_n hx hb dL_sendBack_3 rfl (lv_at hl 1 rfl) ?_
  have hle := xW_kle hW
  refine zxc_i (vx_runV (As := [.int p1]) (rest := [.int 0, .ref (S0 + 29)]) ⟨hx, hb, hml, hown, hts⟩ (cX5_sendBack_ok l hlt D S0 (oF D S0 g o) k0 p1 _ _ h) (cwV 1 hts gL_sendBack_X5_sendBack rfl rfl rfl (by decide +kernel) ⟨Nat.le_of_ble_eq_true rfl, Nat.le_of_ble_eq_true rfl⟩) (zpreV (q := (RX5, TX5, 7)) hE hs hW xC_U rfl) rfl rfl hl.1 rfl (lv_room (Nat.le_of_ble_eq_true rfl)) dL_sendBack_4 ⟨by show _ ≤ 2; omega, by show _ ≤ 8 * (2); omega⟩) hW (fun E ce q9 k1 H locs h hW hcell hv9 hcl9 => ?_) (fun r k1 H locs h hW => ?_)
  · rcases h with ⟨rfl, h⟩ | ⟨rfl, h⟩
    · refine vx_catch hown [] ⟨0, 9, 12, 21⟩ [⟨0, 9, 15, 15⟩] htb (fun z hz => nomatch hz) (by decide) (by decide) (hts (.classLink RL 21 "java/lang/IndexOutOfBoundsException") (by decide +kernel)) (va_Nw.use rfl (hE.2.2.2.2.2.1 _ (by decide))) hcell hv9 hcl9 ?_
      refine lv_astore_n (lv' := [(3, .ref q9), (0, .ref S0), (1, .int p1), (2, .ref (S0 + 29))]) hx hb dL_sendBack_12 rfl hl (by decide) rfl (fun ls hl => ?_)
      refine lv_iconst (v := 1) hx hb dL_sendBack_13 (by decide) ?_
      refine W.widen (k := 2) (n := 8 * (2)) (by omega) (by omega) ?_
      exact z_iret (u := (k1, o)) hx hb hr hlocks hW h dL_sendBack_14
    · refine vx_catch hown [⟨0, 9, 12, 21⟩] ⟨0, 9, 15, 15⟩ [] htb (fun z hz => by rw [List.mem_singleton.mp hz]; exact Or.inr ⟨(by decide), "java/lang/IndexOutOfBoundsException", hts (.classLink RL 21 "java/lang/IndexOutOfBoundsException") (by decide +kernel), hE.2.2.2.2.2.2.2.2⟩) (by decide) (by decide) (hts (.classLink RL 15 "java/lang/IllegalStateException") (by decide +kernel)) (va_Nw.use rfl (hE.2.2.2.2.2.1 _ (by decide))) hcell hv9 hcl9 ?_
      refine lv_astore_n (lv' := [(3, .ref q9), (0, .ref S0), (1, .int p1), (2, .ref (S0 + 29))]) hx hb dL_sendBack_15 rfl hl (by decide) rfl (fun ls hl => ?_)
      refine lv_iconst (v := 2) hx hb dL_sendBack_16 (by decide) ?_
      refine W.widen (k := 2) (n := 8 * (2)) (by omega) (by omega) ?_
      exact z_iret (u := (k1, o)) hx hb hr hlocks hW h dL_sendBack_17
  · refine lv_i2l hx hb dL_sendBack_7 rfl ?_
    refine zw_last hx hb hE.1 hW oC (by unfold vp_in; decide) dL_sendBack_8 oP (fun H locs hW => ?_)
    refine lv_goto (tgt := 18) hx hb dL_sendBack_9 (by decide) ?_
    refine lv_iconst (v := 0) hx hb dL_sendBack_18 (by decide) ?_
    refine W.widen (k := 2) (n := 8 * (2)) (by omega) (by omega) ?_
    exact z_iret (u := (k1, vp_updL o 0 r.toInt64)) hx hb hr hlocks hW h dL_sendBack_19

def wL_pass (S0 : Nat) (k0 : kS) (o : Nat → Int64) (p1 : Int32) (Q : Int32 → kS × (Nat → Int64) → Prop) : Prop := wX5_pass S0 601 k0 p1 (fun r u => Q 0 (u, vp_updL o 0 r.toInt64)) (fun E u => (E = "java/lang/IllegalArgumentException" ∧ Q 1 (u, o)))
set_option maxHeartbeats 8000000 in
set_option maxRecDepth 100000 in
theorem cL_pass_ok (l : Launch) (hlt : l.stackTraces = false) (D : zD) (S0 : Nat) (g : zF) (k0 : kS) (o : Nat → Int64) (p1 : Int32) (Q : Int32 → kS × (Nat → Int64) → Prop) (h : wL_pass S0 k0 o p1 Q) : Met l yL_pass wsL_pass { frames := 8, cells := 601, slots := 8 * (601), locals := 185 } (zPc D S0 (xR D S0 (oF D S0 g o) k0 k0) [.ref S0, .int p1, .ref (S0 + 29)]) (va_Qi Q (zB D S0 (fun u => xR D S0 (oF D S0 g u.2) k0 u.1)) (zA S0)) (601) (8 * (601)) (zA S0) := by
  refine zMetH (cc := cL_pass) (maxL := 4) (ret := (some .int)) (hh := [(0, 9, 12, 13)]) (by decide) rfl (Nat.le_of_ble_eq_true rfl) (fun p e s m args below meth c ls hx hb hr hml hown hts hlocks htb hs hE hW hl => ?_)
  replace hl : lv_has ls 4 [(0, .ref S0), (1, .int p1), (2, .ref (S0 + 29))] := hl
  unfold wL_pass at h
  refine lv_aload_n hx hb dL_pass_0 rfl (lv_at hl 2 rfl) ?_
  refine lv_iconst (v := 0) hx hb dL_pass_1 (by decide) ?_
  refine lv_aload_n hx hb dL_pass_2 rfl (lv_at hl 0 rfl) ?_
  refine lv_iload_n hx hb dL_pass_3 rfl (lv_at hl 1 rfl) ?_
  have hle := xW_kle hW
  refine zxc_i (vx_runV (As := [.int p1]) (rest := [.int 0, .ref (S0 + 29)]) ⟨hx, hb, hml, hown, hts⟩ (cX5_pass_ok l hlt D S0 (oF D S0 g o) 601 k0 p1 _ _ h) (cwV 1 hts gL_pass_X5_pass rfl rfl rfl (by decide +kernel) ⟨Nat.le_of_ble_eq_true rfl, Nat.le_of_ble_eq_true rfl⟩) (zpreV (q := (RX5, TX5, 7)) hE hs hW xC_U rfl) rfl rfl hl.1 rfl (lv_room (Nat.le_of_ble_eq_true rfl)) dL_pass_4 ⟨by show _ ≤ 601; omega, by show _ ≤ 8 * (601); omega⟩) hW (fun E ce q9 k1 H locs h hW hcell hv9 hcl9 => ?_) (fun r k1 H locs h hW => ?_)
  · obtain ⟨rfl, h⟩ := h
    refine vx_catch hown [] ⟨0, 9, 12, 13⟩ [] htb (fun z hz => nomatch hz) (by decide) (by decide) (hts (.classLink RL 13 "java/lang/IllegalArgumentException") (by decide +kernel)) (va_Nw.use rfl (hE.2.2.2.2.2.1 _ (by decide))) hcell hv9 hcl9 ?_
    refine lv_astore_n (lv' := [(3, .ref q9), (0, .ref S0), (1, .int p1), (2, .ref (S0 + 29))]) hx hb dL_pass_12 rfl hl (by decide) rfl (fun ls hl => ?_)
    refine lv_iconst (v := 1) hx hb dL_pass_13 (by decide) ?_
    refine W.widen (k := 601) (n := 8 * (601)) (by omega) (by omega) ?_
    exact z_iret (u := (k1, o)) hx hb hr hlocks hW h dL_pass_14
  · refine lv_i2l hx hb dL_pass_7 rfl ?_
    refine zw_last hx hb hE.1 hW oC (by unfold vp_in; decide) dL_pass_8 oP (fun H locs hW => ?_)
    refine lv_goto (tgt := 15) hx hb dL_pass_9 (by decide) ?_
    refine lv_iconst (v := 0) hx hb dL_pass_15 (by decide) ?_
    refine W.widen (k := 601) (n := 8 * (601)) (by omega) (by omega) ?_
    exact z_iret (u := (k1, vp_updL o 0 r.toInt64)) hx hb hr hlocks hW h dL_pass_16

def wL_owes (S0 : Nat) (k0 : kS) (o : Nat → Int64) (p1 : Int32) (p2 : Int32) (Q : Int32 → kS × (Nat → Int64) → Prop) : Prop := wX5_owes S0 k0 p1 p2 (fun r u => Q 0 (u, vp_updL o 0 r.toInt64)) (fun E u => (E = "java/lang/IllegalArgumentException" ∧ Q 1 (u, o)))
set_option maxHeartbeats 8000000 in
set_option maxRecDepth 100000 in
theorem cL_owes_ok (l : Launch) (hlt : l.stackTraces = false) (D : zD) (S0 : Nat) (g : zF) (k0 : kS) (o : Nat → Int64) (p1 : Int32) (p2 : Int32) (Q : Int32 → kS × (Nat → Int64) → Prop) (h : wL_owes S0 k0 o p1 p2 Q) : Met l yL_owes wsL_owes { frames := 7, cells := 1, slots := 8 * (1), locals := 112 } (zPc D S0 (xR D S0 (oF D S0 g o) k0 k0) [.ref S0, .int p1, .int p2, .ref (S0 + 29)]) (va_Qi Q (zB D S0 (fun u => xR D S0 (oF D S0 g u.2) k0 u.1)) (zA S0)) (1) (8 * (1)) (zA S0) := by
  refine zMetH (cc := cL_owes) (maxL := 5) (ret := (some .int)) (hh := [(0, 10, 13, 13)]) (by decide) rfl (Nat.le_of_ble_eq_true rfl) (fun p e s m args below meth c ls hx hb hr hml hown hts hlocks htb hs hE hW hl => ?_)
  replace hl : lv_has ls 5 [(0, .ref S0), (1, .int p1), (2, .int p2), (3, .ref (S0 + 29))] := hl
  unfold wL_owes at h
  refine lv_aload_n hx hb dL_owes_0 rfl (lv_at hl 3 rfl) ?_
  refine lv_iconst (v := 0) hx hb dL_owes_1 (by decide) ?_
  refine lv_aload_n hx hb dL_owes_2 rfl (lv_at hl 0 rfl) ?_
  refine lv_iload_n hx hb dL_owes_3 rfl (lv_at hl 1 rfl) ?_
  refine lv_iload_n hx hb dL_owes_4 rfl (lv_at hl 2 rfl) ?_
  have hle := xW_kle hW
  refine zxc_i (vx_runV (As := [.int p1, .int p2]) (rest := [.int 0, .ref (S0 + 29)]) ⟨hx, hb, hml, hown, hts⟩ (cX5_owes_ok l hlt D S0 (oF D S0 g o) k0 p1 p2 _ _ h) (cwV 2 hts gL_owes_X5_owes rfl rfl rfl (by decide +kernel) ⟨Nat.le_of_ble_eq_true rfl, Nat.le_of_ble_eq_true rfl⟩) (zpreV (q := (RX5, TX5, 7)) hE hs hW xC_U rfl) rfl rfl hl.1 rfl (lv_room (Nat.le_of_ble_eq_true rfl)) dL_owes_5 ⟨by show _ ≤ 1; omega, by show _ ≤ 8 * (1); omega⟩) hW (fun E ce q9 k1 H locs h hW hcell hv9 hcl9 => ?_) (fun r k1 H locs h hW => ?_)
  · obtain ⟨rfl, h⟩ := h
    refine vx_catch hown [] ⟨0, 10, 13, 13⟩ [] htb (fun z hz => nomatch hz) (by decide) (by decide) (hts (.classLink RL 13 "java/lang/IllegalArgumentException") (by decide +kernel)) (va_Nw.use rfl (hE.2.2.2.2.2.1 _ (by decide))) hcell hv9 hcl9 ?_
    refine lv_astore (lv' := [(4, .ref q9), (0, .ref S0), (1, .int p1), (2, .int p2), (3, .ref (S0 + 29))]) hx hb dL_owes_13 hl (by decide) rfl (fun ls hl => ?_)
    refine lv_iconst (v := 1) hx hb dL_owes_15 (by decide) ?_
    refine W.widen (k := 1) (n := 8 * (1)) (by omega) (by omega) ?_
    exact z_iret (u := (k1, o)) hx hb hr hlocks hW h dL_owes_16
  · refine lv_i2l hx hb dL_owes_8 rfl ?_
    refine zw_last hx hb hE.1 hW oC (by unfold vp_in; decide) dL_owes_9 oP (fun H locs hW => ?_)
    refine lv_goto (tgt := 17) hx hb dL_owes_10 (by decide) ?_
    refine lv_iconst (v := 0) hx hb dL_owes_17 (by decide) ?_
    refine W.widen (k := 1) (n := 8 * (1)) (by omega) (by omega) ?_
    exact z_iret (u := (k1, vp_updL o 0 r.toInt64)) hx hb hr hlocks hW h dL_owes_18

def wL_quota (S0 : Nat) (k0 : kS) (o : Nat → Int64) (p1 : Int32) (Q : Int32 → kS × (Nat → Int64) → Prop) : Prop := wX5_quota S0 k0 p1 (fun r u => Q 0 (u, vp_updL o 0 r.toInt64)) (fun E u => (E = "java/lang/IllegalArgumentException" ∧ Q 1 (u, o)))
set_option maxHeartbeats 8000000 in
set_option maxRecDepth 100000 in
theorem cL_quota_ok (l : Launch) (hlt : l.stackTraces = false) (D : zD) (S0 : Nat) (g : zF) (k0 : kS) (o : Nat → Int64) (p1 : Int32) (Q : Int32 → kS × (Nat → Int64) → Prop) (h : wL_quota S0 k0 o p1 Q) : Met l yL_quota wsL_quota { frames := 7, cells := 1, slots := 8 * (1), locals := 111 } (zPc D S0 (xR D S0 (oF D S0 g o) k0 k0) [.ref S0, .int p1, .ref (S0 + 29)]) (va_Qi Q (zB D S0 (fun u => xR D S0 (oF D S0 g u.2) k0 u.1)) (zA S0)) (1) (8 * (1)) (zA S0) := by
  refine zMetH (cc := cL_quota) (maxL := 4) (ret := (some .int)) (hh := [(0, 9, 12, 13)]) (by decide) rfl (Nat.le_of_ble_eq_true rfl) (fun p e s m args below meth c ls hx hb hr hml hown hts hlocks htb hs hE hW hl => ?_)
  replace hl : lv_has ls 4 [(0, .ref S0), (1, .int p1), (2, .ref (S0 + 29))] := hl
  unfold wL_quota at h
  refine lv_aload_n hx hb dL_quota_0 rfl (lv_at hl 2 rfl) ?_
  refine lv_iconst (v := 0) hx hb dL_quota_1 (by decide) ?_
  refine lv_aload_n hx hb dL_quota_2 rfl (lv_at hl 0 rfl) ?_
  refine lv_iload_n hx hb dL_quota_3 rfl (lv_at hl 1 rfl) ?_
  have hle := xW_kle hW
  refine zxc_i (vx_runV (As := [.int p1]) (rest := [.int 0, .ref (S0 + 29)]) ⟨hx, hb, hml, hown, hts⟩ (cX5_quota_ok l hlt D S0 (oF D S0 g o) k0 p1 _ _ h) (cwV 1 hts gL_quota_X5_quota rfl rfl rfl (by decide +kernel) ⟨Nat.le_of_ble_eq_true rfl, Nat.le_of_ble_eq_true rfl⟩) (zpreV (q := (RX5, TX5, 7)) hE hs hW xC_U rfl) rfl rfl hl.1 rfl (lv_room (Nat.le_of_ble_eq_true rfl)) dL_quota_4 ⟨by show _ ≤ 1; omega, by show _ ≤ 8 * (1); omega⟩) hW (fun E ce q9 k1 H locs h hW hcell hv9 hcl9 => ?_) (fun r k1 H locs h hW => ?_)
  · obtain ⟨rfl, h⟩ := h
    refine vx_catch hown [] ⟨0, 9, 12, 13⟩ [] htb (fun z hz => nomatch hz) (by decide) (by decide) (hts (.classLink RL 13 "java/lang/IllegalArgumentException") (by decide +kernel)) (va_Nw.use rfl (hE.2.2.2.2.2.1 _ (by decide))) hcell hv9 hcl9 ?_
    refine lv_astore_n (lv' := [(3, .ref q9), (0, .ref S0), (1, .int p1), (2, .ref (S0 + 29))]) hx hb dL_quota_12 rfl hl (by decide) rfl (fun ls hl => ?_)
    refine lv_iconst (v := 1) hx hb dL_quota_13 (by decide) ?_
    refine W.widen (k := 1) (n := 8 * (1)) (by omega) (by omega) ?_
    exact z_iret (u := (k1, o)) hx hb hr hlocks hW h dL_quota_14
  · refine lv_i2l hx hb dL_quota_7 rfl ?_
    refine zw_last hx hb hE.1 hW oC (by unfold vp_in; decide) dL_quota_8 oP (fun H locs hW => ?_)
    refine lv_goto (tgt := 15) hx hb dL_quota_9 (by decide) ?_
    refine lv_iconst (v := 0) hx hb dL_quota_15 (by decide) ?_
    refine W.widen (k := 1) (n := 8 * (1)) (by omega) (by omega) ?_
    exact z_iret (u := (k1, vp_updL o 0 r.toInt64)) hx hb hr hlocks hW h dL_quota_16
