def wL_cell (S0 : Nat) (k0 : kS) (L : Nat) (xs : Nat → Int32) (p1 : Int32) (Q : Int32 → kS → Prop) : Prop := (((Int32.ofNat L) ≤ p1 → Q ((2752361 * p1) + 1091) k0) ∧ (¬ (Int32.ofNat L) ≤ p1 → (vp_in p1 L ∧ Q (xs p1.toNatClampNeg) k0)))
set_option maxHeartbeats 8000000 in
set_option maxRecDepth 100000 in
theorem cL_cell_ok (l : Launch) (hlt : l.stackTraces = false) (D : zD) (S0 : Nat) (g : zF) (k0 : kS) (b L : Nat) (xs : Nat → Int32) (hbS : b < S0) (p1 : Int32) (Q : Int32 → kS → Prop) (h : wL_cell S0 k0 L xs p1 Q) : Met l yL_cell wsL_cell { frames := 0, cells := 0, slots := 0, locals := 0 } (zPcX D S0 (xR D S0 g k0 k0) b L xs [.ref b, .int p1]) (va_Qi Q (zB D S0 (fun u => xR D S0 g u u)) (zA S0)) 0 0 (zA S0) := by
  refine zMetS (cc := cL_cell) (maxL := 2) (ret := (some .int)) (by decide) rfl (Nat.le_of_ble_eq_true rfl) (fun p e s m args below meth c ls hx hb hr hml hown hts hlocks hs hE hX hW hl => ?_)
  have hbl : b < s.heap.size := Nat.lt_of_lt_of_le hbS hs
  replace hl : lv_has ls 2 [(0, .ref b), (1, .int p1)] := hl
  unfold wL_cell at h
  refine lv_iload_n hx hb dL_cell_0 rfl (lv_at hl 1 rfl) ?_
  refine lv_aload_n hx hb dL_cell_1 rfl (lv_at hl 0 rfl) ?_
  refine zw_slen2 hx hb hX hbl hbS hW dL_cell_2 ?_
  refine lv_icmp_ge (tgt := 12) hx hb dL_cell_3 (by decide) (fun c_1 => ?_) (fun c_1 => ?_)
  · replace h := h.1 c_1
    refine lv_ldc (own := RL) (v := 2752361) hx hb hown (hts (.constant RL 7 (2752361)) (by decide +kernel)) dL_cell_12 ?_
    refine lv_iload_n hx hb dL_cell_14 rfl (lv_at hl 1 rfl) ?_
    refine lv_imul hx hb dL_cell_15 ?_
    refine lv_sipush (v := 1091) hx hb dL_cell_16 (by decide) ?_
    refine lv_iadd hx hb dL_cell_19 ?_
    exact z_iret hx hb hr hlocks hW h dL_cell_20
  · replace h := h.2 c_1
    refine lv_aload_n hx hb dL_cell_6 rfl (lv_at hl 0 rfl) ?_
    refine lv_iload_n hx hb dL_cell_7 rfl (lv_at hl 1 rfl) ?_
    obtain ⟨hb_2, h⟩ := h
    refine zw_sld2 hx hb hX hbl hbS hW hb_2 dL_cell_8 ?_
    refine lv_goto (tgt := 20) hx hb dL_cell_9 (by decide) ?_
    exact z_iret hx hb hr hlocks hW h dL_cell_20

def wL_low (S0 : Nat) (k0 : kS) (p0 : Int32) (p1 : Int32) (Q : Int32 → kS → Prop) : Prop := (¬ p1 = 0 ∧ Q ((p0 &&& 2147483647) - (p0 &&& 2147483647) / p1 * p1) k0)
set_option maxHeartbeats 8000000 in
set_option maxRecDepth 100000 in
theorem cL_low_ok (l : Launch) (hlt : l.stackTraces = false) (D : zD) (S0 : Nat) (g : zF) (k0 : kS) (p0 : Int32) (p1 : Int32)  (Q : Int32 → kS → Prop) (h : wL_low S0 k0 p0 p1 Q) : Met l yL_low wsL_low { frames := 0, cells := 0, slots := 0, locals := 0 } (zPc D S0 (xR D S0 g k0 k0) [.int p0, .int p1]) (va_Qi Q (zB D S0 (fun u => xR D S0 g u u)) (zA S0)) 0 0 (zA S0) := by
  refine zMet (cc := cL_low) (maxL := 2) (ret := (some .int)) (by decide) rfl (Nat.le_of_ble_eq_true rfl) (fun p e s m args below meth c ls hx hb hr hml hown hts hlocks hnm hs hE hW hl => ?_)
  replace hl : lv_has ls 2 [(0, .int p0), (1, .int p1)] := hl
  unfold wL_low at h
  refine lv_iload_n hx hb dL_low_0 rfl (lv_at hl 0 rfl) ?_
  refine lv_ldc (own := RL) (v := 2147483647) hx hb hown (hts (.constant RL 8 (2147483647)) (by decide +kernel)) dL_low_1 ?_
  refine lv_iand hx hb dL_low_3 ?_
  refine lv_iload_n hx hb dL_low_4 rfl (lv_at hl 1 rfl) ?_
  obtain ⟨hn_1, h⟩ := h
  refine lv_irem hx hb dL_low_5 hn_1 ?_
  exact z_iret hx hb hr hlocks hW h dL_low_6

def wL_way (S0 : Nat) (k0 : kS) (p0 : Int32) (p1 : Int32) (Q : Int32 → kS → Prop) : Prop := ((p1 ≤ p0 → Q (1 + (p0 - p1)) k0) ∧ (¬ p1 ≤ p0 → Q (1 + (p1 - p0)) k0))
set_option maxHeartbeats 8000000 in
set_option maxRecDepth 100000 in
theorem cL_way_ok (l : Launch) (hlt : l.stackTraces = false) (D : zD) (S0 : Nat) (g : zF) (k0 : kS) (p0 : Int32) (p1 : Int32)  (Q : Int32 → kS → Prop) (h : wL_way S0 k0 p0 p1 Q) : Met l yL_way wsL_way { frames := 0, cells := 0, slots := 0, locals := 0 } (zPc D S0 (xR D S0 g k0 k0) [.int p0, .int p1]) (va_Qi Q (zB D S0 (fun u => xR D S0 g u u)) (zA S0)) 0 0 (zA S0) := by
  refine zMet (cc := cL_way) (maxL := 2) (ret := (some .int)) (by decide) rfl (Nat.le_of_ble_eq_true rfl) (fun p e s m args below meth c ls hx hb hr hml hown hts hlocks hnm hs hE hW hl => ?_)
  replace hl : lv_has ls 2 [(0, .int p0), (1, .int p1)] := hl
  unfold wL_way at h
  refine lv_iconst (v := 1) hx hb dL_way_0 (by decide) ?_
  refine lv_iload_n hx hb dL_way_1 rfl (lv_at hl 0 rfl) ?_
  refine lv_iload_n hx hb dL_way_2 rfl (lv_at hl 1 rfl) ?_
  refine lv_icmp_ge (tgt := 12) hx hb dL_way_3 (by decide) (fun c_1 => ?_) (fun c_1 => ?_)
  · replace h := h.1 c_1
    refine lv_iload_n hx hb dL_way_12 rfl (lv_at hl 0 rfl) ?_
    refine lv_iload_n hx hb dL_way_13 rfl (lv_at hl 1 rfl) ?_
    refine lv_isub hx hb dL_way_14 ?_
    refine lv_iadd hx hb dL_way_15 ?_
    exact z_iret hx hb hr hlocks hW h dL_way_16
  · replace h := h.2 c_1
    refine lv_iload_n hx hb dL_way_6 rfl (lv_at hl 1 rfl) ?_
    refine lv_iload_n hx hb dL_way_7 rfl (lv_at hl 0 rfl) ?_
    refine lv_isub hx hb dL_way_8 ?_
    refine lv_goto (tgt := 15) hx hb dL_way_9 (by decide) ?_
    refine lv_iadd hx hb dL_way_15 ?_
    exact z_iret hx hb hr hlocks hW h dL_way_16

def wL_same_2 (S0 : Nat) (Q : Int32 → kS → Prop) : Nat → Int32 → (Nat → Int32) → (Nat → Int32) → kS → Prop
  | 0, _, _, _, _ => False
  | f + 1, x2, f0_, f1_, k => (((64 : Int32) ≤ x2 → Q 1 k) ∧ (¬ (64 : Int32) ≤ x2 → (vp_in x2 64 ∧ (vp_in x2 64 ∧ (((f0_ (x2.toNatClampNeg)) = (f1_ (x2.toNatClampNeg)) → (wL_same_2 S0 Q f (x2 + 1) f0_ f1_ k)) ∧ (¬ (f0_ (x2.toNatClampNeg)) = (f1_ (x2.toNatClampNeg)) → Q 0 k))))))
set_option maxHeartbeats 40000000 in
set_option maxRecDepth 100000 in
theorem tL_same_2 (l : Launch) (hlt : l.stackTraces = false) (D : zD) (S0 : Nat) (g : zF) (c0 : Nat) (c1 : Nat) {p : Program} {e : Env} {s : State} {m : MethodId} {args : Array Value} {below : List Frame} {meth : Method} {c : Code} (hx : p.tables.exec = Jvm.exec) (hb : c.code = cL_same) (hr : meth.sig.returnType = (some .boolean)) (hml : c.maxLocals = 3) (hown : s.vm.findClass yL_same.cls = some m.cls) (hts : ∀ w ∈ wsL_same, w.before args s = true) (hlocks : meth.locks = false) (hs : S0 ≤ s.heap.size) (hE : zE D S0 s) (Q : Int32 → kS → Prop) : ∀ f : Nat, ∀ (x2 : Int32) (f0_ : Nat → Int32) (f1_ : Nat → Int32) (k : kS) (H : Heap) (locs : List Loc) (ls : Array Slot), wL_same_2 S0 Q f x2 f0_ f1_ k → gA D S0 g c0 64 f0_ → gA D S0 g c1 64 f1_ → zW D S0 (xR D S0 g k k) s.heap H locs → lv_has ls 3 [(0, .ref c0), (1, .ref c1), (2, .int x2)] → W p l e { frames := 0, cells := 0, slots := 0, locals := 0 } s m args below meth c H locs 0 0 (MQ below (va_Qi (fun r u => Q r u ∧ (r = 0 ∨ r = 1)) (zB D S0 (fun u => xR D S0 g u u)) (zA S0)) args s 0 0 (zA S0)) (F0 m 2 ls []) := by
  intro f
  induction f with
  | zero => intro x2 f0_ f1_ k H locs ls h; exact h.elim
  | succ f ih =>
    intro x2 f0_ f1_ k H locs ls h hc0 hc1 hW hl
    unfold wL_same_2 at h
    refine lv_iload_n hx hb dL_same_2 rfl (lv_at hl 2 rfl) ?_
    refine lv_bipush (v := 64) hx hb dL_same_3 (by decide) ?_
    refine lv_icmp_ge (tgt := 25) hx hb dL_same_5 (by decide) (fun c_1 => ?_) (fun c_1 => ?_)
    · replace h := h.1 c_1
      refine lv_iconst (v := 1) hx hb dL_same_25 (by decide) ?_
      exact z_zret hx hb hr hlocks hW rfl ⟨h, (Or.inr rfl)⟩ dL_same_26
    · replace h := h.2 c_1
      refine lv_aload_n hx hb dL_same_8 rfl (lv_at hl 0 rfl) ?_
      refine lv_iload_n hx hb dL_same_9 rfl (lv_at hl 2 rfl) ?_
      obtain ⟨hb_2, h⟩ := h
      refine zw_iald hx hb hE.1 hW (gC hc0) hb_2 dL_same_10 ?_
      refine lv_aload_n hx hb dL_same_11 rfl (lv_at hl 1 rfl) ?_
      refine lv_iload_n hx hb dL_same_12 rfl (lv_at hl 2 rfl) ?_
      obtain ⟨hb_3, h⟩ := h
      refine zw_iald hx hb hE.1 hW (gC hc1) hb_3 dL_same_13 ?_
      refine lv_icmp_eq (tgt := 19) hx hb dL_same_14 (by decide) (fun c_4 => ?_) (fun c_4 => ?_)
      · replace h := h.1 c_4
        refine lv_iinc (v := (x2 + 1)) (lv' := [(2, .int (x2 + 1)), (0, .ref c0), (1, .ref c1)]) hx hb dL_same_19 hl (k := 2) rfl rfl (by decide) rfl (fun ls hl => ?_)
        refine lv_goto (tgt := 2) hx hb dL_same_22 (by decide) ?_
        exact ih (x2 + 1) f0_ f1_ k _ _ _ h hc0 hc1 hW (lv_sub hl [1, 2, 0] rfl)
      · replace h := h.2 c_4
        refine lv_iconst (v := 0) hx hb dL_same_17 (by decide) ?_
        exact z_zret hx hb hr hlocks hW rfl ⟨h, (Or.inl rfl)⟩ dL_same_18
def wL_same (S0 : Nat) (k0 : kS) (f0 : Nat → Int32) (f1 : Nat → Int32) (Q : Int32 → kS → Prop) : Prop := (∃ f5 : Nat, wL_same_2 S0 Q f5 0 f0 f1 k0)
set_option maxHeartbeats 8000000 in
set_option maxRecDepth 100000 in
theorem cL_same_ok (l : Launch) (hlt : l.stackTraces = false) (D : zD) (S0 : Nat) (g : zF) (k0 : kS) (c0 : Nat) (c1 : Nat) (f0 : Nat → Int32) (f1 : Nat → Int32) (hc0 : gA D S0 g c0 64 f0) (hc1 : gA D S0 g c1 64 f1) (Q : Int32 → kS → Prop) (h : wL_same S0 k0 f0 f1 Q) : Met l yL_same wsL_same { frames := 0, cells := 0, slots := 0, locals := 0 } (zPc D S0 (xR D S0 g k0 k0) [.ref c0, .ref c1]) (va_Qi (fun r u => Q r u ∧ (r = 0 ∨ r = 1)) (zB D S0 (fun u => xR D S0 g u u)) (zA S0)) 0 0 (zA S0) := by
  refine zMet (cc := cL_same) (maxL := 3) (ret := (some .boolean)) (by decide) rfl (Nat.le_of_ble_eq_true rfl) (fun p e s m args below meth c ls hx hb hr hml hown hts hlocks hnm hs hE hW hl => ?_)
  replace hl : lv_has ls 3 [(0, .ref c0), (1, .ref c1)] := hl
  unfold wL_same at h
  refine lv_iconst (v := 0) hx hb dL_same_0 (by decide) ?_
  refine lv_istore_n (lv' := [(2, .int 0), (0, .ref c0), (1, .ref c1)]) hx hb dL_same_1 rfl hl (by decide) rfl (fun ls hl => ?_)
  obtain ⟨f5, h⟩ := h
  exact tL_same_2 l hlt D S0 g c0 c1 hx hb hr hml hown hts hlocks hs hE Q f5 0 f0 f1 k0 _ _ _ h hc0 hc1 hW (lv_sub hl [1, 2, 0] rfl)

def wL_goesOn_2 (S0 : Nat) (Q : Int32 → kS → Prop) : Nat → Int32 → Int32 → (Nat → Int32) → (Nat → Int32) → kS → Prop
  | 0, _, _, _, _, _ => False
  | f + 1, x2, x3, f0_, f1_, k => ((x2 ≤ x3 → Q 1 k) ∧ (¬ x2 ≤ x3 → (vp_in (10 + x3) 64 ∧ (vp_in (10 + x3) 64 ∧ (((((f1_ ((10 + x3).toNatClampNeg)) + 20000) / 1000000) < (((f0_ ((10 + x3).toNatClampNeg)) + 20000) / 1000000) → Q 0 k) ∧ (¬ (((f1_ ((10 + x3).toNatClampNeg)) + 20000) / 1000000) < (((f0_ ((10 + x3).toNatClampNeg)) + 20000) / 1000000) → (((((f1_ ((10 + x3).toNatClampNeg)) + 20000) / 1000000) = 5 → (((((f0_ ((10 + x3).toNatClampNeg)) + 20000) / 1000000) ≤ 0 → (wL_goesOn_2 S0 Q f x2 (x3 + 1) f0_ f1_ k)) ∧ (¬ (((f0_ ((10 + x3).toNatClampNeg)) + 20000) / 1000000) ≤ 0 → (((5 : Int32) ≤ (((f0_ ((10 + x3).toNatClampNeg)) + 20000) / 1000000) → (wL_goesOn_2 S0 Q f x2 (x3 + 1) f0_ f1_ k)) ∧ (¬ (5 : Int32) ≤ (((f0_ ((10 + x3).toNatClampNeg)) + 20000) / 1000000) → Q 0 k))))) ∧ (¬ (((f1_ ((10 + x3).toNatClampNeg)) + 20000) / 1000000) = 5 → (wL_goesOn_2 S0 Q f x2 (x3 + 1) f0_ f1_ k)))))))))
set_option maxHeartbeats 40000000 in
set_option maxRecDepth 100000 in
theorem tL_goesOn_2 (l : Launch) (hlt : l.stackTraces = false) (D : zD) (S0 : Nat) (g : zF) (c0 : Nat) (c1 : Nat) {p : Program} {e : Env} {s : State} {m : MethodId} {args : Array Value} {below : List Frame} {meth : Method} {c : Code} (hx : p.tables.exec = Jvm.exec) (hb : c.code = cL_goesOn) (hr : meth.sig.returnType = (some .boolean)) (hml : c.maxLocals = 6) (hown : s.vm.findClass yL_goesOn.cls = some m.cls) (hts : ∀ w ∈ wsL_goesOn, w.before args s = true) (hlocks : meth.locks = false) (hs : S0 ≤ s.heap.size) (hE : zE D S0 s) (Q : Int32 → kS → Prop) : ∀ f : Nat, ∀ (x2 : Int32) (x3 : Int32) (f0_ : Nat → Int32) (f1_ : Nat → Int32) (k : kS) (H : Heap) (locs : List Loc) (ls : Array Slot), wL_goesOn_2 S0 Q f x2 x3 f0_ f1_ k → gA D S0 g c0 64 f0_ → gA D S0 g c1 64 f1_ → zW D S0 (xR D S0 g k k) s.heap H locs → lv_has ls 6 [(0, .ref c0), (1, .ref c1), (2, .int x2), (3, .int x3)] → W p l e { frames := 0, cells := 0, slots := 0, locals := 0 } s m args below meth c H locs 0 0 (MQ below (va_Qi (fun r u => Q r u ∧ (r = 0 ∨ r = 1)) (zB D S0 (fun u => xR D S0 g u u)) (zA S0)) args s 0 0 (zA S0)) (F0 m 2 ls []) := by
  intro f
  induction f with
  | zero => intro x2 x3 f0_ f1_ k H locs ls h; exact h.elim
  | succ f ih =>
    intro x2 x3 f0_ f1_ k H locs ls h hc0 hc1 hW hl
    unfold wL_goesOn_2 at h
    refine lv_iload_n hx hb dL_goesOn_2 rfl (lv_at hl 3 rfl) ?_
    refine lv_iload_n hx hb dL_goesOn_3 rfl (lv_at hl 2 rfl) ?_
    refine lv_icmp_ge (tgt := 69) hx hb dL_goesOn_4 (by decide) (fun c_1 => ?_) (fun c_1 => ?_)
    · replace h := h.1 c_1
      refine lv_iconst (v := 1) hx hb dL_goesOn_69 (by decide) ?_
      exact z_zret hx hb hr hlocks hW rfl ⟨h, (Or.inr rfl)⟩ dL_goesOn_70
    · replace h := h.2 c_1
      refine lv_aload_n hx hb dL_goesOn_7 rfl (lv_at hl 0 rfl) ?_
      refine lv_bipush (v := 10) hx hb dL_goesOn_8 (by decide) ?_
      refine lv_iload_n hx hb dL_goesOn_10 rfl (lv_at hl 3 rfl) ?_
      refine lv_iadd hx hb dL_goesOn_11 ?_
      obtain ⟨hb_2, h⟩ := h
      refine zw_iald hx hb hE.1 hW (gC hc0) hb_2 dL_goesOn_12 ?_
      refine lv_sipush (v := 20000) hx hb dL_goesOn_13 (by decide) ?_
      refine lv_iadd hx hb dL_goesOn_16 ?_
      refine lv_ldc (own := RL) (v := 1000000) hx hb hown (hts (.constant RL 70 (1000000)) (by decide +kernel)) dL_goesOn_17 ?_
      refine lv_idiv hx hb dL_goesOn_19 (by decide) ?_
      refine lv_istore (lv' := [(4, .int (((f0_ ((10 + x3).toNatClampNeg)) + 20000) / 1000000)), (0, .ref c0), (1, .ref c1), (2, .int x2), (3, .int x3)]) hx hb dL_goesOn_20 hl (by decide) rfl (fun ls hl => ?_)
      refine lv_aload_n hx hb dL_goesOn_22 rfl (lv_at hl 2 rfl) ?_
      refine lv_bipush (v := 10) hx hb dL_goesOn_23 (by decide) ?_
      refine lv_iload_n hx hb dL_goesOn_25 rfl (lv_at hl 4 rfl) ?_
      refine lv_iadd hx hb dL_goesOn_26 ?_
      obtain ⟨hb_3, h⟩ := h
      refine zw_iald hx hb hE.1 hW (gC hc1) hb_3 dL_goesOn_27 ?_
      refine lv_sipush (v := 20000) hx hb dL_goesOn_28 (by decide) ?_
      refine lv_iadd hx hb dL_goesOn_31 ?_
      refine lv_ldc (own := RL) (v := 1000000) hx hb hown (hts (.constant RL 70 (1000000)) (by decide +kernel)) dL_goesOn_32 ?_
      refine lv_idiv hx hb dL_goesOn_34 (by decide) ?_
      refine lv_istore (lv' := [(5, .int (((f1_ ((10 + x3).toNatClampNeg)) + 20000) / 1000000)), (4, .int (((f0_ ((10 + x3).toNatClampNeg)) + 20000) / 1000000)), (0, .ref c0), (1, .ref c1), (2, .int x2), (3, .int x3)]) hx hb dL_goesOn_35 hl (by decide) rfl (fun ls hl => ?_)
      refine lv_iload hx hb dL_goesOn_37 (lv_at hl 0 rfl) ?_
      refine lv_iload hx hb dL_goesOn_39 (lv_at hl 1 rfl) ?_
      refine lv_icmp_lt (tgt := 61) hx hb dL_goesOn_41 (by decide) (fun c_4 => ?_) (fun c_4 => ?_)
      · replace h := h.1 c_4
        refine lv_iconst (v := 0) hx hb dL_goesOn_61 (by decide) ?_
        exact z_zret hx hb hr hlocks hW rfl ⟨h, (Or.inl rfl)⟩ dL_goesOn_62
      · replace h := h.2 c_4
        refine lv_iload hx hb dL_goesOn_44 (lv_at hl 0 rfl) ?_
        refine lv_iconst (v := 5) hx hb dL_goesOn_46 (by decide) ?_
        refine lv_icmp_ne (tgt := 63) hx hb dL_goesOn_47 (by decide) (fun c_5 => ?_) (fun c_5 => ?_)
        · replace h := h.2 c_5
          refine lv_iinc (v := (x3 + 1)) (lv' := [(3, .int (x3 + 1)), (5, .int (((f1_ ((10 + x3).toNatClampNeg)) + 20000) / 1000000)), (4, .int (((f0_ ((10 + x3).toNatClampNeg)) + 20000) / 1000000)), (0, .ref c0), (1, .ref c1), (2, .int x2)]) hx hb dL_goesOn_63 hl (k := 5) rfl rfl (by decide) rfl (fun ls hl => ?_)
          refine lv_goto (tgt := 2) hx hb dL_goesOn_66 (by decide) ?_
          exact ih x2 (x3 + 1) f0_ f1_ k _ _ _ h hc0 hc1 hW (lv_sub hl [3, 4, 5, 0] rfl)
        · replace h := h.1 c_5
          refine lv_iload hx hb dL_goesOn_50 (lv_at hl 1 rfl) ?_
          refine lv_if_le (tgt := 63) hx hb dL_goesOn_52 (by decide) (fun c_6 => ?_) (fun c_6 => ?_)
          · replace h := h.1 c_6
            refine lv_iinc (v := (x3 + 1)) (lv' := [(3, .int (x3 + 1)), (5, .int (((f1_ ((10 + x3).toNatClampNeg)) + 20000) / 1000000)), (4, .int (((f0_ ((10 + x3).toNatClampNeg)) + 20000) / 1000000)), (0, .ref c0), (1, .ref c1), (2, .int x2)]) hx hb dL_goesOn_63 hl (k := 5) rfl rfl (by decide) rfl (fun ls hl => ?_)
            refine lv_goto (tgt := 2) hx hb dL_goesOn_66 (by decide) ?_
            exact ih x2 (x3 + 1) f0_ f1_ k _ _ _ h hc0 hc1 hW (lv_sub hl [3, 4, 5, 0] rfl)
          · replace h := h.2 c_6
            refine lv_iload hx hb dL_goesOn_55 (lv_at hl 1 rfl) ?_
            refine lv_iconst (v := 5) hx hb dL_goesOn_57 (by decide) ?_
            refine lv_icmp_ge (tgt := 63) hx hb dL_goesOn_58 (by decide) (fun c_7 => ?_) (fun c_7 => ?_)
            · replace h := h.1 c_7
              refine lv_iinc (v := (x3 + 1)) (lv' := [(3, .int (x3 + 1)), (5, .int (((f1_ ((10 + x3).toNatClampNeg)) + 20000) / 1000000)), (4, .int (((f0_ ((10 + x3).toNatClampNeg)) + 20000) / 1000000)), (0, .ref c0), (1, .ref c1), (2, .int x2)]) hx hb dL_goesOn_63 hl (k := 5) rfl rfl (by decide) rfl (fun ls hl => ?_)
              refine lv_goto (tgt := 2) hx hb dL_goesOn_66 (by decide) ?_
              exact ih x2 (x3 + 1) f0_ f1_ k _ _ _ h hc0 hc1 hW (lv_sub hl [3, 4, 5, 0] rfl)
            · replace h := h.2 c_7
              refine lv_iconst (v := 0) hx hb dL_goesOn_61 (by decide) ?_
              exact z_zret hx hb hr hlocks hW rfl ⟨h, (Or.inl rfl)⟩ dL_goesOn_62
def wL_goesOn (S0 : Nat) (k0 : kS) (f0 : Nat → Int32) (f1 : Nat → Int32) (p2 : Int32) (Q : Int32 → kS → Prop) : Prop := (∃ f8 : Nat, wL_goesOn_2 S0 Q f8 p2 0 f0 f1 k0)
set_option maxHeartbeats 8000000 in
set_option maxRecDepth 100000 in
theorem cL_goesOn_ok (l : Launch) (hlt : l.stackTraces = false) (D : zD) (S0 : Nat) (g : zF) (k0 : kS) (c0 : Nat) (c1 : Nat) (f0 : Nat → Int32) (f1 : Nat → Int32) (p2 : Int32) (hc0 : gA D S0 g c0 64 f0) (hc1 : gA D S0 g c1 64 f1) (Q : Int32 → kS → Prop) (h : wL_goesOn S0 k0 f0 f1 p2 Q) : Met l yL_goesOn wsL_goesOn { frames := 0, cells := 0, slots := 0, locals := 0 } (zPc D S0 (xR D S0 g k0 k0) [.ref c0, .ref c1, .int p2]) (va_Qi (fun r u => Q r u ∧ (r = 0 ∨ r = 1)) (zB D S0 (fun u => xR D S0 g u u)) (zA S0)) 0 0 (zA S0) := by
  refine zMet (cc := cL_goesOn) (maxL := 6) (ret := (some .boolean)) (by decide) rfl (Nat.le_of_ble_eq_true rfl) (fun p e s m args below meth c ls hx hb hr hml hown hts hlocks hnm hs hE hW hl => ?_)
  replace hl : lv_has ls 6 [(0, .ref c0), (1, .ref c1), (2, .int p2)] := hl
  unfold wL_goesOn at h
  refine lv_iconst (v := 0) hx hb dL_goesOn_0 (by decide) ?_
  refine lv_istore_n (lv' := [(3, .int 0), (0, .ref c0), (1, .ref c1), (2, .int p2)]) hx hb dL_goesOn_1 rfl hl (by decide) rfl (fun ls hl => ?_)
  obtain ⟨f8, h⟩ := h
  exact tL_goesOn_2 l hlt D S0 g c0 c1 hx hb hr hml hown hts hlocks hs hE Q f8 p2 0 f0 f1 k0 _ _ _ h hc0 hc1 hW (lv_sub hl [1, 2, 3, 0] rfl)

def wL_first_11 (S0 : Nat) (Q : Int32 → kS → Prop) : Nat → Int32 → Int32 → Int32 → Int32 → (Nat → Int32) → Nat → kS → Prop
  | 0, _, _, _, _, _, _, _ => False
  | f + 1, x2, x3, x4, x5, f1_, n, k => (n ≤ 20 ∧ ((x5 < 0 → Q x4 k) ∧ (¬ x5 < 0 → (vp_in (20 + x5) 41 ∧ (((f1_ ((20 + x5).toNatClampNeg)) = x3 → (n + 1 ≤ 20 ∧ (wX5_listed S0 k x5 (fun r6 k7 => ((r6 = 1 → (vp_in x5 41 ∧ (((f1_ (x5.toNatClampNeg)) = x2 → (wL_first_11 S0 Q f x2 x3 x4 (x5 + (-1)) f1_ (n + 1) k7)) ∧ (¬ (f1_ (x5.toNatClampNeg)) = x2 → ((x4 < 0 → (wL_first_11 S0 Q f x2 x3 x5 (x5 + (-1)) f1_ (n + 1) k7)) ∧ (¬ x4 < 0 → (vp_in x5 41 ∧ (wL_way S0 k7 (f1_ (x5.toNatClampNeg)) x2 (fun r13 k14 => (vp_in x4 41 ∧ (wL_way S0 k14 (f1_ (x4.toNatClampNeg)) x2 (fun r16 k17 => ((r16 < r13 → (wL_first_11 S0 Q f x2 x3 x4 (x5 + (-1)) f1_ (n + 1) k17)) ∧ (¬ r16 < r13 → (wL_first_11 S0 Q f x2 x3 x5 (x5 + (-1)) f1_ (n + 1) k17))))))))))))))) ∧ (¬ r6 = 1 → (wL_first_11 S0 Q f x2 x3 x4 (x5 + (-1)) f1_ (n + 1) k7)))) (fun _ _ => False)))) ∧ (¬ (f1_ ((20 + x5).toNatClampNeg)) = x3 → (wL_first_11 S0 Q f x2 x3 x4 (x5 + (-1)) f1_ n k)))))))
set_option maxHeartbeats 40000000 in
set_option maxRecDepth 100000 in
theorem tL_first_11 (l : Launch) (hlt : l.stackTraces = false) (D : zD) (S0 : Nat) (g : zF) (c1 : Nat) {p : Program} {e : Env} {s : State} {m : MethodId} {args : Array Value} {below : List Frame} {meth : Method} {c : Code} (hx : p.tables.exec = Jvm.exec) (hb : c.code = cL_first) (hr : meth.sig.returnType = (some .int)) (hml : c.maxLocals = 6) (hown : s.vm.findClass yL_first.cls = some m.cls) (hts : ∀ w ∈ wsL_first, w.before args s = true) (hlocks : meth.locks = false) (hs : S0 ≤ s.heap.size) (hE : zE D S0 s) (Q : Int32 → kS → Prop) : ∀ f : Nat, ∀ (x2 : Int32) (x3 : Int32) (x4 : Int32) (x5 : Int32) (f1_ : Nat → Int32) (n : Nat) (k : kS) (H : Heap) (locs : List Loc) (ls : Array Slot), wL_first_11 S0 Q f x2 x3 x4 x5 f1_ n k → gA D S0 g c1 41 f1_ → zW D S0 (xR D S0 g k k) s.heap H locs → lv_has ls 6 [(0, .ref S0), (1, .ref c1), (2, .int x2), (3, .int x3), (4, .int x4), (5, .int x5)] → W p l e { frames := 8, cells := 20, slots := 8 * 20, locals := 133 } s m args below meth c H locs n (8 * n) (MQ below (va_Qi Q (zB D S0 (fun u => xR D S0 g u u)) (zA S0)) args s 20 (8 * 20) (zA S0)) (F0 m 11 ls []) := by
  intro f
  induction f with
  | zero => intro x2 x3 x4 x5 f1_ n k H locs ls h; exact h.elim
  | succ f ih =>
    intro x2 x3 x4 x5 f1_ n k H locs ls h hc1 hW hl
    unfold wL_first_11 at h
    obtain ⟨hb_n, h⟩ := h
    refine lv_iload hx hb dL_first_11 (lv_at hl 5 rfl) ?_
    refine lv_if_lt (tgt := 79) hx hb dL_first_13 (by decide) (fun c_2 => ?_) (fun c_2 => ?_)
    · replace h := h.1 c_2
      refine lv_iload hx hb dL_first_79 (lv_at hl 4 rfl) ?_
      refine W.widen (k := 20) (n := 8 * 20) (by omega) (by omega) ?_
      exact z_iret hx hb hr hlocks hW h dL_first_81
    · replace h := h.2 c_2
      refine lv_aload_n hx hb dL_first_16 rfl (lv_at hl 1 rfl) ?_
      refine lv_bipush (v := 20) hx hb dL_first_17 (by decide) ?_
      refine lv_iload hx hb dL_first_19 (lv_at hl 5 rfl) ?_
      refine lv_iadd hx hb dL_first_21 ?_
      obtain ⟨hb_3, h⟩ := h
      refine zw_iald hx hb hE.1 hW (gC hc1) hb_3 dL_first_22 ?_
      refine lv_iload_n hx hb dL_first_23 rfl (lv_at hl 3 rfl) ?_
      refine lv_icmp_ne (tgt := 73) hx hb dL_first_24 (by decide) (fun c_4 => ?_) (fun c_4 => ?_)
      · replace h := h.2 c_4
        refine lv_iinc (v := (x5 + (-1))) (lv' := [(5, .int (x5 + (-1))), (0, .ref S0), (1, .ref c1), (2, .int x2), (3, .int x3), (4, .int x4)]) hx hb dL_first_73 hl (k := 5) rfl rfl (by decide) rfl (fun ls hl => ?_)
        refine lv_goto (tgt := 11) hx hb dL_first_76 (by decide) ?_
        exact ih x2 x3 x4 (x5 + (-1)) f1_ n k _ _ _ h hc1 hW (lv_sub hl [1, 2, 3, 4, 5, 0] rfl)
      · replace h := h.1 c_4
        refine lv_aload_n hx hb dL_first_27 rfl (lv_at hl 0 rfl) ?_
        refine lv_iload hx hb dL_first_28 (lv_at hl 5 rfl) ?_
        obtain ⟨hb_5, h⟩ := h
        refine zxc_i (vx_runV (As := [.int x5]) (rest := []) ⟨hx, hb, hml, hown, hts⟩ (cX5_listed_ok l hlt D S0 g k x5 _ _ h) (cwV 1 hts gL_first_X5_listed rfl rfl rfl (by decide +kernel) ⟨Nat.le_of_ble_eq_true rfl, Nat.le_of_ble_eq_true rfl⟩) (zpreV (q := (RX5, TX5, 7)) hE hs hW xC_U rfl) rfl rfl hl.1 rfl (lv_room (Nat.le_of_ble_eq_true rfl)) dL_first_30 ⟨by show _ ≤ 20; omega, by show _ ≤ 8 * 20; omega⟩) hW (fun E ce q9 k7 H locs h hW hcell hv9 hcl9 => h.elim) (fun r6 k7 H locs h hW => ?_)
        replace hW := xW_start hW
        refine W.widen (k := n + 1) (n := 8 * (n + 1)) (by omega) (by omega) ?_
        refine lv_iconst (v := 1) hx hb dL_first_33 (by decide) ?_
        refine lv_icmp_ne (tgt := 73) hx hb dL_first_34 (by decide) (fun c_8 => ?_) (fun c_8 => ?_)
        · replace h := h.2 c_8
          refine lv_iinc (v := (x5 + (-1))) (lv' := [(5, .int (x5 + (-1))), (0, .ref S0), (1, .ref c1), (2, .int x2), (3, .int x3), (4, .int x4)]) hx hb dL_first_73 hl (k := 5) rfl rfl (by decide) rfl (fun ls hl => ?_)
          refine lv_goto (tgt := 11) hx hb dL_first_76 (by decide) ?_
          exact ih x2 x3 x4 (x5 + (-1)) f1_ (n + 1) k7 _ _ _ h hc1 hW (lv_sub hl [1, 2, 3, 4, 5, 0] rfl)
        · replace h := h.1 c_8
          refine lv_aload_n hx hb dL_first_37 rfl (lv_at hl 1 rfl) ?_
          refine lv_iload hx hb dL_first_38 (lv_at hl 5 rfl) ?_
          obtain ⟨hb_9, h⟩ := h
          refine zw_iald hx hb hE.1 hW (gC hc1) hb_9 dL_first_40 ?_
          refine lv_iload_n hx hb dL_first_41 rfl (lv_at hl 2 rfl) ?_
          refine lv_icmp_eq (tgt := 73) hx hb dL_first_42 (by decide) (fun c_10 => ?_) (fun c_10 => ?_)
          · replace h := h.1 c_10
            refine lv_iinc (v := (x5 + (-1))) (lv' := [(5, .int (x5 + (-1))), (0, .ref S0), (1, .ref c1), (2, .int x2), (3, .int x3), (4, .int x4)]) hx hb dL_first_73 hl (k := 5) rfl rfl (by decide) rfl (fun ls hl => ?_)
            refine lv_goto (tgt := 11) hx hb dL_first_76 (by decide) ?_
            exact ih x2 x3 x4 (x5 + (-1)) f1_ (n + 1) k7 _ _ _ h hc1 hW (lv_sub hl [1, 2, 3, 4, 5, 0] rfl)
          · replace h := h.2 c_10
            refine lv_iload hx hb dL_first_45 (lv_at hl 4 rfl) ?_
            refine lv_if_lt (tgt := 69) hx hb dL_first_47 (by decide) (fun c_11 => ?_) (fun c_11 => ?_)
            · replace h := h.1 c_11
              refine lv_iload hx hb dL_first_69 (lv_at hl 5 rfl) ?_
              refine lv_istore (lv' := [(4, .int x5), (0, .ref S0), (1, .ref c1), (2, .int x2), (3, .int x3), (5, .int x5)]) hx hb dL_first_71 hl (by decide) rfl (fun ls hl => ?_)
              refine lv_iinc (v := (x5 + (-1))) (lv' := [(5, .int (x5 + (-1))), (4, .int x5), (0, .ref S0), (1, .ref c1), (2, .int x2), (3, .int x3)]) hx hb dL_first_73 hl (k := 5) rfl rfl (by decide) rfl (fun ls hl => ?_)
              refine lv_goto (tgt := 11) hx hb dL_first_76 (by decide) ?_
              exact ih x2 x3 x5 (x5 + (-1)) f1_ (n + 1) k7 _ _ _ h hc1 hW (lv_sub hl [2, 3, 4, 5, 1, 0] rfl)
            · replace h := h.2 c_11
              refine lv_aload_n hx hb dL_first_50 rfl (lv_at hl 1 rfl) ?_
              refine lv_iload hx hb dL_first_51 (lv_at hl 5 rfl) ?_
              obtain ⟨hb_12, h⟩ := h
              refine zw_iald hx hb hE.1 hW (gC hc1) hb_12 dL_first_53 ?_
              refine lv_iload_n hx hb dL_first_54 rfl (lv_at hl 2 rfl) ?_
              refine zc_i (va_runS (As := [.int (f1_ (x5.toNatClampNeg)), .int x2]) (rest := []) ⟨hx, hb, hml, hown, hts⟩ (cL_way_ok l hlt D S0 g k7 (f1_ (x5.toNatClampNeg)) x2 _ h) (va_cwS 2 hts gL_first_L_way rfl rfl rfl (by decide +kernel) ⟨Nat.le_of_ble_eq_true rfl, Nat.le_of_ble_eq_true rfl⟩) (zpreS hE hs hW) rfl rfl hl.1 rfl (lv_room (Nat.le_of_ble_eq_true rfl)) dL_first_55 ⟨by show _ ≤ 20; omega, by show _ ≤ 8 * 20; omega⟩) hW (fun r13 k14 H locs h hW => ?_)
              replace hW := xW_start hW
              refine W.widen (k := n + 1) (n := 8 * (n + 1)) (by omega) (by omega) ?_
              refine lv_aload_n hx hb dL_first_58 rfl (lv_at hl 1 rfl) ?_
              refine lv_iload hx hb dL_first_59 (lv_at hl 4 rfl) ?_
              obtain ⟨hb_15, h⟩ := h
              refine zw_iald hx hb hE.1 hW (gC hc1) hb_15 dL_first_61 ?_
              refine lv_iload_n hx hb dL_first_62 rfl (lv_at hl 2 rfl) ?_
              refine zc_i (va_runS (As := [.int (f1_ (x4.toNatClampNeg)), .int x2]) (rest := [.int r13]) ⟨hx, hb, hml, hown, hts⟩ (cL_way_ok l hlt D S0 g k14 (f1_ (x4.toNatClampNeg)) x2 _ h) (va_cwS 2 hts gL_first_L_way rfl rfl rfl (by decide +kernel) ⟨Nat.le_of_ble_eq_true rfl, Nat.le_of_ble_eq_true rfl⟩) (zpreS hE hs hW) rfl rfl hl.1 rfl (lv_room (Nat.le_of_ble_eq_true rfl)) dL_first_63 ⟨by show _ ≤ 20; omega, by show _ ≤ 8 * 20; omega⟩) hW (fun r16 k17 H locs h hW => ?_)
              replace hW := xW_start hW
              refine W.widen (k := n + 1) (n := 8 * (n + 1)) (by omega) (by omega) ?_
              refine lv_icmp_gt (tgt := 73) hx hb dL_first_66 (by decide) (fun c_18 => ?_) (fun c_18 => ?_)
              · replace h := h.1 c_18
                refine lv_iinc (v := (x5 + (-1))) (lv' := [(5, .int (x5 + (-1))), (0, .ref S0), (1, .ref c1), (2, .int x2), (3, .int x3), (4, .int x4)]) hx hb dL_first_73 hl (k := 5) rfl rfl (by decide) rfl (fun ls hl => ?_)
                refine lv_goto (tgt := 11) hx hb dL_first_76 (by decide) ?_
                exact ih x2 x3 x4 (x5 + (-1)) f1_ (n + 1) k17 _ _ _ h hc1 hW (lv_sub hl [1, 2, 3, 4, 5, 0] rfl)
              · replace h := h.2 c_18
                refine lv_iload hx hb dL_first_69 (lv_at hl 5 rfl) ?_
                refine lv_istore (lv' := [(4, .int x5), (0, .ref S0), (1, .ref c1), (2, .int x2), (3, .int x3), (5, .int x5)]) hx hb dL_first_71 hl (by decide) rfl (fun ls hl => ?_)
                refine lv_iinc (v := (x5 + (-1))) (lv' := [(5, .int (x5 + (-1))), (4, .int x5), (0, .ref S0), (1, .ref c1), (2, .int x2), (3, .int x3)]) hx hb dL_first_73 hl (k := 5) rfl rfl (by decide) rfl (fun ls hl => ?_)
                refine lv_goto (tgt := 11) hx hb dL_first_76 (by decide) ?_
                exact ih x2 x3 x5 (x5 + (-1)) f1_ (n + 1) k17 _ _ _ h hc1 hW (lv_sub hl [2, 3, 4, 5, 1, 0] rfl)
def wL_first (S0 : Nat) (k0 : kS) (f1 : Nat → Int32) (p2 : Int32) (p3 : Int32) (Q : Int32 → kS → Prop) : Prop := (vp_in 40 41 ∧ (∃ f19 : Nat, wL_first_11 S0 Q f19 p2 p3 (-1) ((f1 ((40 : Int32).toNatClampNeg)) - 1) f1 0 k0))
set_option maxHeartbeats 8000000 in
set_option maxRecDepth 100000 in
theorem cL_first_ok (l : Launch) (hlt : l.stackTraces = false) (D : zD) (S0 : Nat) (g : zF) (k0 : kS) (c1 : Nat) (f1 : Nat → Int32) (p2 : Int32) (p3 : Int32) (hc1 : gA D S0 g c1 41 f1) (Q : Int32 → kS → Prop) (h : wL_first S0 k0 f1 p2 p3 Q) : Met l yL_first wsL_first { frames := 8, cells := 20, slots := 8 * 20, locals := 133 } (zPc D S0 (xR D S0 g k0 k0) [.ref S0, .ref c1, .int p2, .int p3]) (va_Qi Q (zB D S0 (fun u => xR D S0 g u u)) (zA S0)) 20 (8 * 20) (zA S0) := by
  refine zMet (cc := cL_first) (maxL := 6) (ret := (some .int)) (by decide) rfl (Nat.le_of_ble_eq_true rfl) (fun p e s m args below meth c ls hx hb hr hml hown hts hlocks hnm hs hE hW hl => ?_)
  replace hl : lv_has ls 6 [(0, .ref S0), (1, .ref c1), (2, .int p2), (3, .int p3)] := hl
  unfold wL_first at h
  refine lv_iconst (v := (-1)) hx hb dL_first_0 (by decide) ?_
  refine lv_istore (lv' := [(4, .int (-1)), (0, .ref S0), (1, .ref c1), (2, .int p2), (3, .int p3)]) hx hb dL_first_1 hl (by decide) rfl (fun ls hl => ?_)
  refine lv_aload_n hx hb dL_first_3 rfl (lv_at hl 2 rfl) ?_
  refine lv_bipush (v := 40) hx hb dL_first_4 (by decide) ?_
  obtain ⟨hb_1, h⟩ := h
  refine zw_iald hx hb hE.1 hW (gC hc1) hb_1 dL_first_6 ?_
  refine lv_iconst (v := 1) hx hb dL_first_7 (by decide) ?_
  refine lv_isub hx hb dL_first_8 ?_
  refine lv_istore (lv' := [(5, .int ((f1 ((40 : Int32).toNatClampNeg)) - 1)), (4, .int (-1)), (0, .ref S0), (1, .ref c1), (2, .int p2), (3, .int p3)]) hx hb dL_first_9 hl (by decide) rfl (fun ls hl => ?_)
  obtain ⟨f19, h⟩ := h
  exact tL_first_11 l hlt D S0 g c1 hx hb hr hml hown hts hlocks hs hE Q f19 p2 p3 (-1) ((f1 ((40 : Int32).toNatClampNeg)) - 1) f1 0 k0 _ _ _ h hc1 hW (lv_sub hl [2, 3, 4, 5, 1, 0] rfl)

