def wL_holds_277 (S0 : Nat) (Q : Int32 → kS → Prop) : Nat → Int32 → (Nat → Int32) → (Nat → Int32) → Nat → kS → Prop
  | 0, _, _, _, _, _ => False
  | f + 1, x4, f1_, f2_, n, k => (n ≤ 320 ∧ (((36 : Int32) ≤ x4 → (vp_in 40 41 ∧ (n + 2 ≤ 320 ∧ (wL_due S0 k (f2_ ((40 : Int32).toNatClampNeg)) (fun r8 k9 => ((r8 = (-2) → (n + 2 + 1 ≤ 320 ∧ (wL_stateOf S0 k9 (-1) (fun r12 k13 => ((r12 = (-2) → Q 1 k13) ∧ (¬ r12 = (-2) → Q 0 k13)))))) ∧ (¬ r8 = (-2) → Q 0 k9))))))) ∧ (¬ (36 : Int32) ≤ x4 → (n + 1 ≤ 320 ∧ (wL_owed S0 k (x4 / 6) (x4 - x4 / 6 * 6) (fun r16 k17 => (n + 1 + 1 ≤ 320 ∧ (wL_owed S0 k17 (x4 - x4 / 6 * 6) (x4 / 6) (fun r19 k20 => ((r16 = (-r19) → (n + 1 + 1 + 1 ≤ 320 ∧ (wX5_quota S0 k20 (x4 - x4 / 6 * 6) (fun r23 k24 => ((r23 < 0 → Q 0 k24) ∧ (¬ r23 < 0 → (n + 1 + 1 + 1 + 1 ≤ 320 ∧ (wX5_quota S0 k24 (x4 - x4 / 6 * 6) (fun r27 k28 => ((r27 ≤ 2 → (wL_holds_277 S0 Q f (x4 + 1) f1_ f2_ (n + 1 + 1 + 1 + 1) k28)) ∧ (¬ r27 ≤ 2 → Q 0 k28))) (fun _ _ => False)))))) (fun _ _ => False)))) ∧ (¬ r16 = (-r19) → Q 0 k20)))))))))))
set_option maxHeartbeats 40000000 in
set_option maxRecDepth 100000 in
theorem tL_holds_277 (l : Launch) (hlt : l.stackTraces = false) (D : zD) (S0 : Nat) (g : zF) (c1 : Nat) (c2 : Nat) {p : Program} {e : Env} {s : State} {m : MethodId} {args : Array Value} {below : List Frame} {meth : Method} {c : Code} (hx : p.tables.exec = Jvm.exec) (hb : c.code = cL_holds) (hr : meth.sig.returnType = (some .boolean)) (hml : c.maxLocals = 7) (hown : s.vm.findClass yL_holds.cls = some m.cls) (hts : ∀ w ∈ wsL_holds, w.before args s = true) (hlocks : meth.locks = false) (hs : S0 ≤ s.heap.size) (hE : zE D S0 s) (Q : Int32 → kS → Prop) : ∀ f : Nat, ∀ (x4 : Int32) (f1_ : Nat → Int32) (f2_ : Nat → Int32) (n : Nat) (k : kS) (H : Heap) (locs : List Loc) (ls : Array Slot), wL_holds_277 S0 Q f x4 f1_ f2_ n k → gA D S0 g c1 41 f1_ → gA D S0 g c2 41 f2_ → zW D S0 (xR D S0 g k k) s.heap H locs → lv_has ls 7 [(0, .ref S0), (1, .ref c1), (2, .ref c2), (4, .int x4)] → W p l e { frames := 9, cells := 320, slots := 8 * 320, locals := 156 } s m args below meth c H locs n (8 * n) (MQ below (va_Qi (fun r u => Q r u ∧ (r = 0 ∨ r = 1)) (zB D S0 (fun u => xR D S0 g u u)) (zA S0)) args s 320 (8 * 320) (zA S0)) (F0 m 277 ls []) := by
  intro f
  induction f with
  | zero => intro x4 f1_ f2_ n k H locs ls h; exact h.elim
  | succ f ih =>
    intro x4 f1_ f2_ n k H locs ls h hc1 hc2 hW hl
    unfold wL_holds_277 at h
    obtain ⟨hb_n, h⟩ := h
    refine lv_iload hx hb dL_holds_277 (lv_at hl 3 rfl) ?_
    refine lv_bipush (v := 36) hx hb dL_holds_279 (by decide) ?_
    refine lv_icmp_ge (tgt := 349) hx hb dL_holds_281 (by decide) (fun c_5 => ?_) (fun c_5 => ?_)
    · replace h := h.1 c_5
      refine lv_aload_n hx hb dL_holds_349 rfl (lv_at hl 0 rfl) ?_
      refine lv_aload_n hx hb dL_holds_350 rfl (lv_at hl 2 rfl) ?_
      refine lv_bipush (v := 40) hx hb dL_holds_351 (by decide) ?_
      obtain ⟨hb_6, h⟩ := h
      refine zw_iald hx hb hE.1 hW (gC hc2) hb_6 dL_holds_353 ?_
      obtain ⟨hb_7, h⟩ := h
      refine zc_i (vx_runSW (As := [.ref S0, .int (f2_ ((40 : Int32).toNatClampNeg))]) (rest := []) ⟨hx, hb, hml, hown, hts⟩ (cL_due_ok l hlt D S0 g k (f2_ ((40 : Int32).toNatClampNeg)) _ h) (vx_cwSW 2 hts gL_holds_L_due rfl rfl rfl (by decide +kernel) ⟨Nat.le_of_ble_eq_true rfl, Nat.le_of_ble_eq_true rfl⟩) (zpreS hE hs hW) rfl rfl hl.1 rfl (lv_room (Nat.le_of_ble_eq_true rfl)) dL_holds_354 ⟨by show _ ≤ 320; omega, by show _ ≤ 8 * 320; omega⟩) hW (fun r8 k9 H locs h hW => ?_)
      replace hW := xW_start hW
      refine W.widen (k := n + 2) (n := 8 * (n + 2)) (by omega) (by omega) ?_
      refine lv_bipush (v := (-2)) hx hb dL_holds_357 (by decide) ?_
      refine lv_icmp_ne (tgt := 376) hx hb dL_holds_359 (by decide) (fun c_10 => ?_) (fun c_10 => ?_)
      · replace h := h.2 c_10
        refine lv_iconst (v := 0) hx hb dL_holds_376 (by decide) ?_
        refine W.widen (k := 320) (n := 8 * 320) (by omega) (by omega) ?_
        exact z_zret hx hb hr hlocks hW rfl ⟨h, (Or.inl rfl)⟩ dL_holds_377
      · replace h := h.1 c_10
        refine lv_aload_n hx hb dL_holds_362 rfl (lv_at hl 0 rfl) ?_
        refine lv_iconst (v := (-1)) hx hb dL_holds_363 (by decide) ?_
        obtain ⟨hb_11, h⟩ := h
        refine zc_i (vx_runSW (As := [.ref S0, .int (-1)]) (rest := []) ⟨hx, hb, hml, hown, hts⟩ (cL_stateOf_ok l hlt D S0 g k9 (-1) _ h) (vx_cwSW 2 hts gL_holds_L_stateOf rfl rfl rfl (by decide +kernel) ⟨Nat.le_of_ble_eq_true rfl, Nat.le_of_ble_eq_true rfl⟩) (zpreS hE hs hW) rfl rfl hl.1 rfl (lv_room (Nat.le_of_ble_eq_true rfl)) dL_holds_364 ⟨by show _ ≤ 320; omega, by show _ ≤ 8 * 320; omega⟩) hW (fun r12 k13 H locs h hW => ?_)
        replace hW := xW_start hW
        refine W.widen (k := n + 2 + 1) (n := 8 * (n + 2 + 1)) (by omega) (by omega) ?_
        refine lv_bipush (v := (-2)) hx hb dL_holds_367 (by decide) ?_
        refine lv_icmp_ne (tgt := 376) hx hb dL_holds_369 (by decide) (fun c_14 => ?_) (fun c_14 => ?_)
        · replace h := h.2 c_14
          refine lv_iconst (v := 0) hx hb dL_holds_376 (by decide) ?_
          refine W.widen (k := 320) (n := 8 * 320) (by omega) (by omega) ?_
          exact z_zret hx hb hr hlocks hW rfl ⟨h, (Or.inl rfl)⟩ dL_holds_377
        · replace h := h.1 c_14
          refine lv_iconst (v := 1) hx hb dL_holds_372 (by decide) ?_
          refine lv_goto (tgt := 377) hx hb dL_holds_373 (by decide) ?_
          refine W.widen (k := 320) (n := 8 * 320) (by omega) (by omega) ?_
          exact z_zret hx hb hr hlocks hW rfl ⟨h, (Or.inr rfl)⟩ dL_holds_377
    · replace h := h.2 c_5
      refine lv_aload_n hx hb dL_holds_284 rfl (lv_at hl 0 rfl) ?_
      refine lv_iload hx hb dL_holds_285 (lv_at hl 3 rfl) ?_
      refine lv_bipush (v := 6) hx hb dL_holds_287 (by decide) ?_
      refine lv_idiv hx hb dL_holds_289 (by decide) ?_
      refine lv_iload hx hb dL_holds_290 (lv_at hl 3 rfl) ?_
      refine lv_bipush (v := 6) hx hb dL_holds_292 (by decide) ?_
      refine lv_irem hx hb dL_holds_294 (by decide) ?_
      obtain ⟨hb_15, h⟩ := h
      refine zc_i (vx_runSW (As := [.ref S0, .int (x4 / 6), .int (x4 - x4 / 6 * 6)]) (rest := []) ⟨hx, hb, hml, hown, hts⟩ (cL_owed_ok l hlt D S0 g k (x4 / 6) (x4 - x4 / 6 * 6) _ h) (vx_cwSW 3 hts gL_holds_L_owed rfl rfl rfl (by decide +kernel) ⟨Nat.le_of_ble_eq_true rfl, Nat.le_of_ble_eq_true rfl⟩) (zpreS hE hs hW) rfl rfl hl.1 rfl (lv_room (Nat.le_of_ble_eq_true rfl)) dL_holds_295 ⟨by show _ ≤ 320; omega, by show _ ≤ 8 * 320; omega⟩) hW (fun r16 k17 H locs h hW => ?_)
      replace hW := xW_start hW
      refine W.widen (k := n + 1) (n := 8 * (n + 1)) (by omega) (by omega) ?_
      refine lv_aload_n hx hb dL_holds_298 rfl (lv_at hl 0 rfl) ?_
      refine lv_iload hx hb dL_holds_299 (lv_at hl 3 rfl) ?_
      refine lv_bipush (v := 6) hx hb dL_holds_301 (by decide) ?_
      refine lv_irem hx hb dL_holds_303 (by decide) ?_
      refine lv_iload hx hb dL_holds_304 (lv_at hl 3 rfl) ?_
      refine lv_bipush (v := 6) hx hb dL_holds_306 (by decide) ?_
      refine lv_idiv hx hb dL_holds_308 (by decide) ?_
      obtain ⟨hb_18, h⟩ := h
      refine zc_i (vx_runSW (As := [.ref S0, .int (x4 - x4 / 6 * 6), .int (x4 / 6)]) (rest := [.int r16]) ⟨hx, hb, hml, hown, hts⟩ (cL_owed_ok l hlt D S0 g k17 (x4 - x4 / 6 * 6) (x4 / 6) _ h) (vx_cwSW 3 hts gL_holds_L_owed rfl rfl rfl (by decide +kernel) ⟨Nat.le_of_ble_eq_true rfl, Nat.le_of_ble_eq_true rfl⟩) (zpreS hE hs hW) rfl rfl hl.1 rfl (lv_room (Nat.le_of_ble_eq_true rfl)) dL_holds_309 ⟨by show _ ≤ 320; omega, by show _ ≤ 8 * 320; omega⟩) hW (fun r19 k20 H locs h hW => ?_)
      replace hW := xW_start hW
      refine W.widen (k := n + 1 + 1) (n := 8 * (n + 1 + 1)) (by omega) (by omega) ?_
      refine lv_ineg hx hb dL_holds_312 ?_
      refine lv_icmp_ne (tgt := 341) hx hb dL_holds_313 (by decide) (fun c_21 => ?_) (fun c_21 => ?_)
      · replace h := h.2 c_21
        refine lv_iconst (v := 0) hx hb dL_holds_341 (by decide) ?_
        refine W.widen (k := 320) (n := 8 * 320) (by omega) (by omega) ?_
        exact z_zret hx hb hr hlocks hW rfl ⟨h, (Or.inl rfl)⟩ dL_holds_342
      · replace h := h.1 c_21
        refine lv_aload_n hx hb dL_holds_316 rfl (lv_at hl 0 rfl) ?_
        refine lv_iload hx hb dL_holds_317 (lv_at hl 3 rfl) ?_
        refine lv_bipush (v := 6) hx hb dL_holds_319 (by decide) ?_
        refine lv_irem hx hb dL_holds_321 (by decide) ?_
        obtain ⟨hb_22, h⟩ := h
        refine zxc_i (vx_runV (As := [.int (x4 - x4 / 6 * 6)]) (rest := []) ⟨hx, hb, hml, hown, hts⟩ (cX5_quota_ok l hlt D S0 g k20 (x4 - x4 / 6 * 6) _ _ h) (cwV 1 hts gL_holds_X5_quota rfl rfl rfl (by decide +kernel) ⟨Nat.le_of_ble_eq_true rfl, Nat.le_of_ble_eq_true rfl⟩) (zpreV (q := (RX5, TX5, 7)) hE hs hW xC_U rfl) rfl rfl hl.1 rfl (lv_room (Nat.le_of_ble_eq_true rfl)) dL_holds_322 ⟨by show _ ≤ 320; omega, by show _ ≤ 8 * 320; omega⟩) hW (fun E ce q9 k24 H locs h hW hcell hv9 hcl9 => h.elim) (fun r23 k24 H locs h hW => ?_)
        replace hW := xW_start hW
        refine W.widen (k := n + 1 + 1 + 1) (n := 8 * (n + 1 + 1 + 1)) (by omega) (by omega) ?_
        refine lv_if_lt (tgt := 341) hx hb dL_holds_325 (by decide) (fun c_25 => ?_) (fun c_25 => ?_)
        · replace h := h.1 c_25
          refine lv_iconst (v := 0) hx hb dL_holds_341 (by decide) ?_
          refine W.widen (k := 320) (n := 8 * 320) (by omega) (by omega) ?_
          exact z_zret hx hb hr hlocks hW rfl ⟨h, (Or.inl rfl)⟩ dL_holds_342
        · replace h := h.2 c_25
          refine lv_aload_n hx hb dL_holds_328 rfl (lv_at hl 0 rfl) ?_
          refine lv_iload hx hb dL_holds_329 (lv_at hl 3 rfl) ?_
          refine lv_bipush (v := 6) hx hb dL_holds_331 (by decide) ?_
          refine lv_irem hx hb dL_holds_333 (by decide) ?_
          obtain ⟨hb_26, h⟩ := h
          refine zxc_i (vx_runV (As := [.int (x4 - x4 / 6 * 6)]) (rest := []) ⟨hx, hb, hml, hown, hts⟩ (cX5_quota_ok l hlt D S0 g k24 (x4 - x4 / 6 * 6) _ _ h) (cwV 1 hts gL_holds_X5_quota rfl rfl rfl (by decide +kernel) ⟨Nat.le_of_ble_eq_true rfl, Nat.le_of_ble_eq_true rfl⟩) (zpreV (q := (RX5, TX5, 7)) hE hs hW xC_U rfl) rfl rfl hl.1 rfl (lv_room (Nat.le_of_ble_eq_true rfl)) dL_holds_334 ⟨by show _ ≤ 320; omega, by show _ ≤ 8 * 320; omega⟩) hW (fun E ce q9 k28 H locs h hW hcell hv9 hcl9 => h.elim) (fun r27 k28 H locs h hW => ?_)
          replace hW := xW_start hW
          refine W.widen (k := n + 1 + 1 + 1 + 1) (n := 8 * (n + 1 + 1 + 1 + 1)) (by omega) (by omega) ?_
          refine lv_iconst (v := 2) hx hb dL_holds_337 (by decide) ?_
          refine lv_icmp_le (tgt := 343) hx hb dL_holds_338 (by decide) (fun c_29 => ?_) (fun c_29 => ?_)
          · replace h := h.1 c_29
            refine lv_iinc (v := (x4 + 1)) (lv' := [(4, .int (x4 + 1)), (0, .ref S0), (1, .ref c1), (2, .ref c2)]) hx hb dL_holds_343 hl (k := 3) rfl rfl (by decide) rfl (fun ls hl => ?_)
            refine lv_goto (tgt := 277) hx hb dL_holds_346 (by decide) ?_
            exact ih (x4 + 1) f1_ f2_ (n + 1 + 1 + 1 + 1) k28 _ _ _ h hc1 hc2 hW (lv_sub hl [1, 2, 3, 0] rfl)
          · replace h := h.2 c_29
            refine lv_iconst (v := 0) hx hb dL_holds_341 (by decide) ?_
            refine W.widen (k := 320) (n := 8 * 320) (by omega) (by omega) ?_
            exact z_zret hx hb hr hlocks hW rfl ⟨h, (Or.inl rfl)⟩ dL_holds_342
def wL_holds_274 (S0 : Nat) (Q : Int32 → kS → Prop) (f1_ : (Nat → Int32)) (f2_ : (Nat → Int32)) (n : Nat) (k : kS) : Prop := (n ≤ 320 ∧ (∃ f30 : Nat, wL_holds_277 S0 Q f30 0 f1_ f2_ n k))
set_option maxHeartbeats 40000000 in
set_option maxRecDepth 100000 in
theorem tL_holds_274 (l : Launch) (hlt : l.stackTraces = false) (D : zD) (S0 : Nat) (g : zF) (c1 : Nat) (c2 : Nat) {p : Program} {e : Env} {s : State} {m : MethodId} {args : Array Value} {below : List Frame} {meth : Method} {c : Code} (hx : p.tables.exec = Jvm.exec) (hb : c.code = cL_holds) (hr : meth.sig.returnType = (some .boolean)) (hml : c.maxLocals = 7) (hown : s.vm.findClass yL_holds.cls = some m.cls) (hts : ∀ w ∈ wsL_holds, w.before args s = true) (hlocks : meth.locks = false) (hs : S0 ≤ s.heap.size) (hE : zE D S0 s) (Q : Int32 → kS → Prop) : ∀ (f1_ : Nat → Int32) (f2_ : Nat → Int32) (n : Nat) (k : kS) (H : Heap) (locs : List Loc) (ls : Array Slot), wL_holds_274 S0 Q f1_ f2_ n k → gA D S0 g c1 41 f1_ → gA D S0 g c2 41 f2_ → zW D S0 (xR D S0 g k k) s.heap H locs → lv_has ls 7 [(0, .ref S0), (1, .ref c1), (2, .ref c2)] → W p l e { frames := 9, cells := 320, slots := 8 * 320, locals := 156 } s m args below meth c H locs n (8 * n) (MQ below (va_Qi (fun r u => Q r u ∧ (r = 0 ∨ r = 1)) (zB D S0 (fun u => xR D S0 g u u)) (zA S0)) args s 320 (8 * 320) (zA S0)) (F0 m 274 ls []) := by
  intro f1_ f2_ n k H locs ls h hc1 hc2 hW hl
  unfold wL_holds_274 at h
  obtain ⟨hb_n, h⟩ := h
  refine lv_iconst (v := 0) hx hb dL_holds_274 (by decide) ?_
  refine lv_istore (lv' := [(4, .int 0), (0, .ref S0), (1, .ref c1), (2, .ref c2)]) hx hb dL_holds_275 hl (by decide) rfl (fun ls hl => ?_)
  obtain ⟨f30, h⟩ := h
  exact tL_holds_277 l hlt D S0 g c1 c2 hx hb hr hml hown hts hlocks hs hE Q f30 0 f1_ f2_ n k _ _ _ h hc1 hc2 hW (lv_sub hl [1, 2, 3, 0] rfl)
def wL_holds_215 (S0 : Nat) (Q : Int32 → kS → Prop) : Nat → Int32 → Int32 → (Nat → Int32) → (Nat → Int32) → Nat → kS → Prop
  | 0, _, _, _, _, _, _ => False
  | f + 1, x3, x4, f1_, f2_, n, k => (n ≤ 320 ∧ (vp_in 40 41 ∧ (((f1_ ((40 : Int32).toNatClampNeg)) ≤ x4 → (wL_holds_274 S0 Q f1_ f2_ n k)) ∧ (¬ (f1_ ((40 : Int32).toNatClampNeg)) ≤ x4 → (n + 1 ≤ 320 ∧ (wX5_listed S0 k x4 (fun r32 k33 => ((((x3 >>> (x4 &&& 31)) &&& 1) = 0 → (n + 1 + 1 ≤ 320 ∧ (wX5_inHandsOf S0 k33 x4 (fun r38 k39 => (vp_in x4 41 ∧ ((r38 = (f1_ (x4.toNatClampNeg)) → ((r32 < (-1) → Q 0 k39) ∧ (¬ r32 < (-1) → ((r32 ≤ 1 → (wL_holds_215 S0 Q f x3 (x4 + 1) f1_ f2_ (n + 1 + 1) k39)) ∧ (¬ r32 ≤ 1 → Q 0 k39))))) ∧ (¬ r38 = (f1_ (x4.toNatClampNeg)) → Q 0 k39)))) (fun _ _ => False)))) ∧ (¬ ((x3 >>> (x4 &&& 31)) &&& 1) = 0 → ((r32 < (-1) → Q 0 k33) ∧ (¬ r32 < (-1) → ((r32 ≤ 1 → (wL_holds_215 S0 Q f x3 (x4 + 1) f1_ f2_ (n + 1) k33)) ∧ (¬ r32 ≤ 1 → Q 0 k33))))))) (fun _ _ => False)))))))
set_option maxHeartbeats 40000000 in
set_option maxRecDepth 100000 in
theorem tL_holds_215 (l : Launch) (hlt : l.stackTraces = false) (D : zD) (S0 : Nat) (g : zF) (c1 : Nat) (c2 : Nat) {p : Program} {e : Env} {s : State} {m : MethodId} {args : Array Value} {below : List Frame} {meth : Method} {c : Code} (hx : p.tables.exec = Jvm.exec) (hb : c.code = cL_holds) (hr : meth.sig.returnType = (some .boolean)) (hml : c.maxLocals = 7) (hown : s.vm.findClass yL_holds.cls = some m.cls) (hts : ∀ w ∈ wsL_holds, w.before args s = true) (hlocks : meth.locks = false) (hs : S0 ≤ s.heap.size) (hE : zE D S0 s) (Q : Int32 → kS → Prop) : ∀ f : Nat, ∀ (x3 : Int32) (x4 : Int32) (f1_ : Nat → Int32) (f2_ : Nat → Int32) (n : Nat) (k : kS) (H : Heap) (locs : List Loc) (ls : Array Slot), wL_holds_215 S0 Q f x3 x4 f1_ f2_ n k → gA D S0 g c1 41 f1_ → gA D S0 g c2 41 f2_ → zW D S0 (xR D S0 g k k) s.heap H locs → lv_has ls 7 [(0, .ref S0), (1, .ref c1), (2, .ref c2), (3, .int x3), (4, .int x4)] → W p l e { frames := 9, cells := 320, slots := 8 * 320, locals := 156 } s m args below meth c H locs n (8 * n) (MQ below (va_Qi (fun r u => Q r u ∧ (r = 0 ∨ r = 1)) (zB D S0 (fun u => xR D S0 g u u)) (zA S0)) args s 320 (8 * 320) (zA S0)) (F0 m 215 ls []) := by
  intro f
  induction f with
  | zero => intro x3 x4 f1_ f2_ n k H locs ls h; exact h.elim
  | succ f ih =>
    intro x3 x4 f1_ f2_ n k H locs ls h hc1 hc2 hW hl
    unfold wL_holds_215 at h
    obtain ⟨hb_n, h⟩ := h
    refine lv_iload hx hb dL_holds_215 (lv_at hl 4 rfl) ?_
    refine lv_aload_n hx hb dL_holds_217 rfl (lv_at hl 1 rfl) ?_
    refine lv_bipush (v := 40) hx hb dL_holds_218 (by decide) ?_
    obtain ⟨hb_3, h⟩ := h
    refine zw_iald hx hb hE.1 hW (gC hc1) hb_3 dL_holds_220 ?_
    refine lv_icmp_ge (tgt := 274) hx hb dL_holds_221 (by decide) (fun c_4 => ?_) (fun c_4 => ?_)
    · replace h := h.1 c_4
      exact tL_holds_274 l hlt D S0 g c1 c2 hx hb hr hml hown hts hlocks hs hE Q f1_ f2_ n k _ _ _ h hc1 hc2 hW (lv_sub hl [0, 1, 2] rfl)
    · replace h := h.2 c_4
      refine lv_aload_n hx hb dL_holds_224 rfl (lv_at hl 0 rfl) ?_
      refine lv_iload hx hb dL_holds_225 (lv_at hl 4 rfl) ?_
      obtain ⟨hb_31, h⟩ := h
      refine zxc_i (vx_runV (As := [.int x4]) (rest := []) ⟨hx, hb, hml, hown, hts⟩ (cX5_listed_ok l hlt D S0 g k x4 _ _ h) (cwV 1 hts gL_holds_X5_listed rfl rfl rfl (by decide +kernel) ⟨Nat.le_of_ble_eq_true rfl, Nat.le_of_ble_eq_true rfl⟩) (zpreV (q := (RX5, TX5, 7)) hE hs hW xC_U rfl) rfl rfl hl.1 rfl (lv_room (Nat.le_of_ble_eq_true rfl)) dL_holds_227 ⟨by show _ ≤ 320; omega, by show _ ≤ 8 * 320; omega⟩) hW (fun E ce q9 k33 H locs h hW hcell hv9 hcl9 => h.elim) (fun r32 k33 H locs h hW => ?_)
      replace hW := xW_start hW
      refine W.widen (k := n + 1) (n := 8 * (n + 1)) (by omega) (by omega) ?_
      refine lv_istore (lv' := [(5, .int r32), (0, .ref S0), (1, .ref c1), (2, .ref c2), (3, .int x3), (4, .int x4)]) hx hb dL_holds_230 hl (by decide) rfl (fun ls hl => ?_)
      refine lv_iload_n hx hb dL_holds_232 rfl (lv_at hl 4 rfl) ?_
      refine lv_iload hx hb dL_holds_233 (lv_at hl 5 rfl) ?_
      refine lv_ishr hx hb dL_holds_235 ?_
      refine lv_iconst (v := 1) hx hb dL_holds_236 (by decide) ?_
      refine lv_iand hx hb dL_holds_237 ?_
      refine lv_if_ne (tgt := 254) hx hb dL_holds_238 (by decide) (fun c_34 => ?_) (fun c_34 => ?_)
      · replace h := h.2 c_34
        refine lv_iload hx hb dL_holds_254 (lv_at hl 0 rfl) ?_
        refine lv_iconst (v := (-1)) hx hb dL_holds_256 (by decide) ?_
        refine lv_icmp_lt (tgt := 266) hx hb dL_holds_257 (by decide) (fun c_35 => ?_) (fun c_35 => ?_)
        · replace h := h.1 c_35
          refine lv_iconst (v := 0) hx hb dL_holds_266 (by decide) ?_
          refine W.widen (k := 320) (n := 8 * 320) (by omega) (by omega) ?_
          exact z_zret hx hb hr hlocks hW rfl ⟨h, (Or.inl rfl)⟩ dL_holds_267
        · replace h := h.2 c_35
          refine lv_iload hx hb dL_holds_260 (lv_at hl 0 rfl) ?_
          refine lv_iconst (v := 1) hx hb dL_holds_262 (by decide) ?_
          refine lv_icmp_le (tgt := 268) hx hb dL_holds_263 (by decide) (fun c_36 => ?_) (fun c_36 => ?_)
          · replace h := h.1 c_36
            refine lv_iinc (v := (x4 + 1)) (lv' := [(4, .int (x4 + 1)), (5, .int r32), (0, .ref S0), (1, .ref c1), (2, .ref c2), (3, .int x3)]) hx hb dL_holds_268 hl (k := 5) rfl rfl (by decide) rfl (fun ls hl => ?_)
            refine lv_goto (tgt := 215) hx hb dL_holds_271 (by decide) ?_
            exact ih x3 (x4 + 1) f1_ f2_ (n + 1) k33 _ _ _ h hc1 hc2 hW (lv_sub hl [2, 3, 4, 5, 0] rfl)
          · replace h := h.2 c_36
            refine lv_iconst (v := 0) hx hb dL_holds_266 (by decide) ?_
            refine W.widen (k := 320) (n := 8 * 320) (by omega) (by omega) ?_
            exact z_zret hx hb hr hlocks hW rfl ⟨h, (Or.inl rfl)⟩ dL_holds_267
      · replace h := h.1 c_34
        refine lv_aload_n hx hb dL_holds_241 rfl (lv_at hl 1 rfl) ?_
        refine lv_iload hx hb dL_holds_242 (lv_at hl 5 rfl) ?_
        obtain ⟨hb_37, h⟩ := h
        refine zxc_i (vx_runV (As := [.int x4]) (rest := []) ⟨hx, hb, hml, hown, hts⟩ (cX5_inHandsOf_ok l hlt D S0 g k33 x4 _ _ h) (cwV 1 hts gL_holds_X5_inHandsOf rfl rfl rfl (by decide +kernel) ⟨Nat.le_of_ble_eq_true rfl, Nat.le_of_ble_eq_true rfl⟩) (zpreV (q := (RX5, TX5, 7)) hE hs hW xC_U rfl) rfl rfl hl.1 rfl (lv_room (Nat.le_of_ble_eq_true rfl)) dL_holds_244 ⟨by show _ ≤ 320; omega, by show _ ≤ 8 * 320; omega⟩) hW (fun E ce q9 k39 H locs h hW hcell hv9 hcl9 => h.elim) (fun r38 k39 H locs h hW => ?_)
        replace hW := xW_start hW
        refine W.widen (k := n + 1 + 1) (n := 8 * (n + 1 + 1)) (by omega) (by omega) ?_
        refine lv_aload_n hx hb dL_holds_247 rfl (lv_at hl 2 rfl) ?_
        refine lv_iload hx hb dL_holds_248 (lv_at hl 5 rfl) ?_
        obtain ⟨hb_40, h⟩ := h
        refine zw_iald hx hb hE.1 hW (gC hc1) hb_40 dL_holds_250 ?_
        refine lv_icmp_ne (tgt := 266) hx hb dL_holds_251 (by decide) (fun c_41 => ?_) (fun c_41 => ?_)
        · replace h := h.2 c_41
          refine lv_iconst (v := 0) hx hb dL_holds_266 (by decide) ?_
          refine W.widen (k := 320) (n := 8 * 320) (by omega) (by omega) ?_
          exact z_zret hx hb hr hlocks hW rfl ⟨h, (Or.inl rfl)⟩ dL_holds_267
        · replace h := h.1 c_41
          refine lv_iload hx hb dL_holds_254 (lv_at hl 0 rfl) ?_
          refine lv_iconst (v := (-1)) hx hb dL_holds_256 (by decide) ?_
          refine lv_icmp_lt (tgt := 266) hx hb dL_holds_257 (by decide) (fun c_42 => ?_) (fun c_42 => ?_)
          · replace h := h.1 c_42
            refine lv_iconst (v := 0) hx hb dL_holds_266 (by decide) ?_
            refine W.widen (k := 320) (n := 8 * 320) (by omega) (by omega) ?_
            exact z_zret hx hb hr hlocks hW rfl ⟨h, (Or.inl rfl)⟩ dL_holds_267
          · replace h := h.2 c_42
            refine lv_iload hx hb dL_holds_260 (lv_at hl 0 rfl) ?_
            refine lv_iconst (v := 1) hx hb dL_holds_262 (by decide) ?_
            refine lv_icmp_le (tgt := 268) hx hb dL_holds_263 (by decide) (fun c_43 => ?_) (fun c_43 => ?_)
            · replace h := h.1 c_43
              refine lv_iinc (v := (x4 + 1)) (lv' := [(4, .int (x4 + 1)), (5, .int r32), (0, .ref S0), (1, .ref c1), (2, .ref c2), (3, .int x3)]) hx hb dL_holds_268 hl (k := 5) rfl rfl (by decide) rfl (fun ls hl => ?_)
              refine lv_goto (tgt := 215) hx hb dL_holds_271 (by decide) ?_
              exact ih x3 (x4 + 1) f1_ f2_ (n + 1 + 1) k39 _ _ _ h hc1 hc2 hW (lv_sub hl [2, 3, 4, 5, 0] rfl)
            · replace h := h.2 c_43
              refine lv_iconst (v := 0) hx hb dL_holds_266 (by decide) ?_
              refine W.widen (k := 320) (n := 8 * 320) (by omega) (by omega) ?_
              exact z_zret hx hb hr hlocks hW rfl ⟨h, (Or.inl rfl)⟩ dL_holds_267
def wL_holds_212 (S0 : Nat) (Q : Int32 → kS → Prop) (x3 : Int32) (f1_ : (Nat → Int32)) (f2_ : (Nat → Int32)) (n : Nat) (k : kS) : Prop := (n ≤ 320 ∧ (∃ f44 : Nat, wL_holds_215 S0 Q f44 x3 0 f1_ f2_ n k))
set_option maxHeartbeats 40000000 in
set_option maxRecDepth 100000 in
theorem tL_holds_212 (l : Launch) (hlt : l.stackTraces = false) (D : zD) (S0 : Nat) (g : zF) (c1 : Nat) (c2 : Nat) {p : Program} {e : Env} {s : State} {m : MethodId} {args : Array Value} {below : List Frame} {meth : Method} {c : Code} (hx : p.tables.exec = Jvm.exec) (hb : c.code = cL_holds) (hr : meth.sig.returnType = (some .boolean)) (hml : c.maxLocals = 7) (hown : s.vm.findClass yL_holds.cls = some m.cls) (hts : ∀ w ∈ wsL_holds, w.before args s = true) (hlocks : meth.locks = false) (hs : S0 ≤ s.heap.size) (hE : zE D S0 s) (Q : Int32 → kS → Prop) : ∀ (x3 : Int32) (f1_ : Nat → Int32) (f2_ : Nat → Int32) (n : Nat) (k : kS) (H : Heap) (locs : List Loc) (ls : Array Slot), wL_holds_212 S0 Q x3 f1_ f2_ n k → gA D S0 g c1 41 f1_ → gA D S0 g c2 41 f2_ → zW D S0 (xR D S0 g k k) s.heap H locs → lv_has ls 7 [(0, .ref S0), (1, .ref c1), (2, .ref c2), (3, .int x3)] → W p l e { frames := 9, cells := 320, slots := 8 * 320, locals := 156 } s m args below meth c H locs n (8 * n) (MQ below (va_Qi (fun r u => Q r u ∧ (r = 0 ∨ r = 1)) (zB D S0 (fun u => xR D S0 g u u)) (zA S0)) args s 320 (8 * 320) (zA S0)) (F0 m 212 ls []) := by
  intro x3 f1_ f2_ n k H locs ls h hc1 hc2 hW hl
  unfold wL_holds_212 at h
  obtain ⟨hb_n, h⟩ := h
  refine lv_iconst (v := 0) hx hb dL_holds_212 (by decide) ?_
  refine lv_istore (lv' := [(4, .int 0), (0, .ref S0), (1, .ref c1), (2, .ref c2), (3, .int x3)]) hx hb dL_holds_213 hl (by decide) rfl (fun ls hl => ?_)
  obtain ⟨f44, h⟩ := h
  exact tL_holds_215 l hlt D S0 g c1 c2 hx hb hr hml hown hts hlocks hs hE Q f44 x3 0 f1_ f2_ n k _ _ _ h hc1 hc2 hW (lv_sub hl [1, 2, 3, 4, 0] rfl)
def wL_holds_206 (S0 : Nat) (Q : Int32 → kS → Prop) (K : Int32 → Int32 → (Nat → Int32) → (Nat → Int32) → Nat → kS → Prop) (x3 : Int32) (x4 : Int32) (f1_ : (Nat → Int32)) (f2_ : (Nat → Int32)) (n : Nat) (k : kS) : Prop := (n ≤ 320 ∧ (K x3 (x4 + 1) f1_ f2_ n k))
set_option maxHeartbeats 40000000 in
set_option maxRecDepth 100000 in
theorem tL_holds_206 (l : Launch) (hlt : l.stackTraces = false) (D : zD) (S0 : Nat) (g : zF) (c1 : Nat) (c2 : Nat) {p : Program} {e : Env} {s : State} {m : MethodId} {args : Array Value} {below : List Frame} {meth : Method} {c : Code} (hx : p.tables.exec = Jvm.exec) (hb : c.code = cL_holds) (hr : meth.sig.returnType = (some .boolean)) (hml : c.maxLocals = 7) (hown : s.vm.findClass yL_holds.cls = some m.cls) (hts : ∀ w ∈ wsL_holds, w.before args s = true) (hlocks : meth.locks = false) (hs : S0 ≤ s.heap.size) (hE : zE D S0 s) (Q : Int32 → kS → Prop) (K : Int32 → Int32 → (Nat → Int32) → (Nat → Int32) → Nat → kS → Prop) (hK : ∀ (x3 : Int32) (x4 : Int32) (f1_ : Nat → Int32) (f2_ : Nat → Int32) (n : Nat) (k : kS) (H : Heap) (locs : List Loc) (ls : Array Slot), K x3 x4 f1_ f2_ n k → gA D S0 g c1 41 f1_ → gA D S0 g c2 41 f2_ → zW D S0 (xR D S0 g k k) s.heap H locs → lv_has ls 7 [(0, .ref S0), (1, .ref c1), (2, .ref c2), (3, .int x3), (4, .int x4)] → W p l e { frames := 9, cells := 320, slots := 8 * 320, locals := 156 } s m args below meth c H locs n (8 * n) (MQ below (va_Qi (fun r u => Q r u ∧ (r = 0 ∨ r = 1)) (zB D S0 (fun u => xR D S0 g u u)) (zA S0)) args s 320 (8 * 320) (zA S0)) (F0 m 5 ls [])) : ∀ (x3 : Int32) (x4 : Int32) (f1_ : Nat → Int32) (f2_ : Nat → Int32) (n : Nat) (k : kS) (H : Heap) (locs : List Loc) (ls : Array Slot), wL_holds_206 S0 Q K x3 x4 f1_ f2_ n k → gA D S0 g c1 41 f1_ → gA D S0 g c2 41 f2_ → zW D S0 (xR D S0 g k k) s.heap H locs → lv_has ls 7 [(0, .ref S0), (1, .ref c1), (2, .ref c2), (3, .int x3), (4, .int x4)] → W p l e { frames := 9, cells := 320, slots := 8 * 320, locals := 156 } s m args below meth c H locs n (8 * n) (MQ below (va_Qi (fun r u => Q r u ∧ (r = 0 ∨ r = 1)) (zB D S0 (fun u => xR D S0 g u u)) (zA S0)) args s 320 (8 * 320) (zA S0)) (F0 m 206 ls []) := by
  intro x3 x4 f1_ f2_ n k H locs ls h hc1 hc2 hW hl
  unfold wL_holds_206 at h
  obtain ⟨hb_n, h⟩ := h
  refine lv_iinc (v := (x4 + 1)) (lv' := [(4, .int (x4 + 1)), (0, .ref S0), (1, .ref c1), (2, .ref c2), (3, .int x3)]) hx hb dL_holds_206 hl (k := 4) rfl rfl (by decide) rfl (fun ls hl => ?_)
  refine lv_goto (tgt := 5) hx hb dL_holds_209 (by decide) ?_
  exact hK x3 (x4 + 1) f1_ f2_ n k _ _ _ h hc1 hc2 hW (lv_sub hl [1, 2, 3, 4, 0] rfl)
def wL_holds_141 (S0 : Nat) (Q : Int32 → kS → Prop) (K : Int32 → Int32 → (Nat → Int32) → (Nat → Int32) → Nat → kS → Prop) (x3 : Int32) (x4 : Int32) (x5 : Int32) (x6 : Int32) (f1_ : (Nat → Int32)) (f2_ : (Nat → Int32)) (n : Nat) (k : kS) : Prop := (n ≤ 320 ∧ ((x5 ≤ 0 → (wL_holds_206 S0 Q K x3 x4 f1_ f2_ n k)) ∧ (¬ x5 ≤ 0 → (((4 : Int32) ≤ x5 → (wL_holds_206 S0 Q K x3 x4 f1_ f2_ n k)) ∧ (¬ (4 : Int32) ≤ x5 → ((((x3 >>> (x6 &&& 31)) &&& 1) = 1 → Q 0 k) ∧ (¬ ((x3 >>> (x6 &&& 31)) &&& 1) = 1 → (n + 1 ≤ 320 ∧ (wX5_isFree S0 k x6 (fun r67 k68 => ((r67 = 0 → (n + 1 + 1 ≤ 320 ∧ (wX5_inHandsOf S0 k68 x6 (fun r71 k72 => ((x5 = 1 → (vp_in x6 41 ∧ ((r71 = (f1_ (x6.toNatClampNeg)) → (wL_holds_206 S0 Q K (x3 ||| (1 <<< (x6 &&& 31))) x4 f1_ f2_ (n + 1 + 1) k72)) ∧ (¬ r71 = (f1_ (x6.toNatClampNeg)) → Q 0 k72)))) ∧ (¬ x5 = 1 → (vp_in x4 41 ∧ ((r71 = (f2_ (x4.toNatClampNeg)) → (wL_holds_206 S0 Q K (x3 ||| (1 <<< (x6 &&& 31))) x4 f1_ f2_ (n + 1 + 1) k72)) ∧ (¬ r71 = (f2_ (x4.toNatClampNeg)) → Q 0 k72)))))) (fun _ _ => False)))) ∧ (¬ r67 = 0 → Q 0 k68))) (fun _ _ => False))))))))))
set_option maxHeartbeats 40000000 in
set_option maxRecDepth 100000 in
theorem tL_holds_141 (l : Launch) (hlt : l.stackTraces = false) (D : zD) (S0 : Nat) (g : zF) (c1 : Nat) (c2 : Nat) {p : Program} {e : Env} {s : State} {m : MethodId} {args : Array Value} {below : List Frame} {meth : Method} {c : Code} (hx : p.tables.exec = Jvm.exec) (hb : c.code = cL_holds) (hr : meth.sig.returnType = (some .boolean)) (hml : c.maxLocals = 7) (hown : s.vm.findClass yL_holds.cls = some m.cls) (hts : ∀ w ∈ wsL_holds, w.before args s = true) (hlocks : meth.locks = false) (hs : S0 ≤ s.heap.size) (hE : zE D S0 s) (Q : Int32 → kS → Prop) (K : Int32 → Int32 → (Nat → Int32) → (Nat → Int32) → Nat → kS → Prop) (hK : ∀ (x3 : Int32) (x4 : Int32) (f1_ : Nat → Int32) (f2_ : Nat → Int32) (n : Nat) (k : kS) (H : Heap) (locs : List Loc) (ls : Array Slot), K x3 x4 f1_ f2_ n k → gA D S0 g c1 41 f1_ → gA D S0 g c2 41 f2_ → zW D S0 (xR D S0 g k k) s.heap H locs → lv_has ls 7 [(0, .ref S0), (1, .ref c1), (2, .ref c2), (3, .int x3), (4, .int x4)] → W p l e { frames := 9, cells := 320, slots := 8 * 320, locals := 156 } s m args below meth c H locs n (8 * n) (MQ below (va_Qi (fun r u => Q r u ∧ (r = 0 ∨ r = 1)) (zB D S0 (fun u => xR D S0 g u u)) (zA S0)) args s 320 (8 * 320) (zA S0)) (F0 m 5 ls [])) : ∀ (x3 : Int32) (x4 : Int32) (x5 : Int32) (x6 : Int32) (f1_ : Nat → Int32) (f2_ : Nat → Int32) (n : Nat) (k : kS) (H : Heap) (locs : List Loc) (ls : Array Slot), wL_holds_141 S0 Q K x3 x4 x5 x6 f1_ f2_ n k → gA D S0 g c1 41 f1_ → gA D S0 g c2 41 f2_ → zW D S0 (xR D S0 g k k) s.heap H locs → lv_has ls 7 [(0, .ref S0), (1, .ref c1), (2, .ref c2), (3, .int x3), (4, .int x4), (5, .int x5), (6, .int x6)] → W p l e { frames := 9, cells := 320, slots := 8 * 320, locals := 156 } s m args below meth c H locs n (8 * n) (MQ below (va_Qi (fun r u => Q r u ∧ (r = 0 ∨ r = 1)) (zB D S0 (fun u => xR D S0 g u u)) (zA S0)) args s 320 (8 * 320) (zA S0)) (F0 m 141 ls []) := by
  intro x3 x4 x5 x6 f1_ f2_ n k H locs ls h hc1 hc2 hW hl
  unfold wL_holds_141 at h
  obtain ⟨hb_n, h⟩ := h
  refine lv_iload hx hb dL_holds_141 (lv_at hl 5 rfl) ?_
  refine lv_if_le (tgt := 206) hx hb dL_holds_143 (by decide) (fun c_63 => ?_) (fun c_63 => ?_)
  · replace h := h.1 c_63
    exact tL_holds_206 l hlt D S0 g c1 c2 hx hb hr hml hown hts hlocks hs hE Q K hK x3 x4 f1_ f2_ n k _ _ _ h hc1 hc2 hW (lv_sub hl [0, 1, 2, 3, 4] rfl)
  · replace h := h.2 c_63
    refine lv_iload hx hb dL_holds_146 (lv_at hl 5 rfl) ?_
    refine lv_iconst (v := 4) hx hb dL_holds_148 (by decide) ?_
    refine lv_icmp_ge (tgt := 206) hx hb dL_holds_149 (by decide) (fun c_64 => ?_) (fun c_64 => ?_)
    · replace h := h.1 c_64
      exact tL_holds_206 l hlt D S0 g c1 c2 hx hb hr hml hown hts hlocks hs hE Q K hK x3 x4 f1_ f2_ n k _ _ _ h hc1 hc2 hW (lv_sub hl [0, 1, 2, 3, 4] rfl)
    · replace h := h.2 c_64
      refine lv_iload_n hx hb dL_holds_152 rfl (lv_at hl 3 rfl) ?_
      refine lv_iload hx hb dL_holds_153 (lv_at hl 6 rfl) ?_
      refine lv_ishr hx hb dL_holds_155 ?_
      refine lv_iconst (v := 1) hx hb dL_holds_156 (by decide) ?_
      refine lv_iand hx hb dL_holds_157 ?_
      refine lv_iconst (v := 1) hx hb dL_holds_158 (by decide) ?_
      refine lv_icmp_eq (tgt := 197) hx hb dL_holds_159 (by decide) (fun c_65 => ?_) (fun c_65 => ?_)
      · replace h := h.1 c_65
        refine lv_iconst (v := 0) hx hb dL_holds_197 (by decide) ?_
        refine W.widen (k := 320) (n := 8 * 320) (by omega) (by omega) ?_
        exact z_zret hx hb hr hlocks hW rfl ⟨h, (Or.inl rfl)⟩ dL_holds_198
      · replace h := h.2 c_65
        refine lv_aload_n hx hb dL_holds_162 rfl (lv_at hl 0 rfl) ?_
        refine lv_iload hx hb dL_holds_163 (lv_at hl 6 rfl) ?_
        obtain ⟨hb_66, h⟩ := h
        refine zxc_i (vx_runV (As := [.int x6]) (rest := []) ⟨hx, hb, hml, hown, hts⟩ (cX5_isFree_ok l hlt D S0 g k x6 _ _ h) (cwV 1 hts gL_holds_X5_isFree rfl rfl rfl (by decide +kernel) ⟨Nat.le_of_ble_eq_true rfl, Nat.le_of_ble_eq_true rfl⟩) (zpreV (q := (RX5, TX5, 7)) hE hs hW xC_U rfl) rfl rfl hl.1 rfl (lv_room (Nat.le_of_ble_eq_true rfl)) dL_holds_165 ⟨by show _ ≤ 320; omega, by show _ ≤ 8 * 320; omega⟩) hW (fun E ce q9 k68 H locs h hW hcell hv9 hcl9 => h.elim) (fun r67 k68 H locs h hW => ?_)
        replace h := h.1
        replace hW := xW_start hW
        refine W.widen (k := n + 1) (n := 8 * (n + 1)) (by omega) (by omega) ?_
        refine lv_if_ne (tgt := 197) hx hb dL_holds_168 (by decide) (fun c_69 => ?_) (fun c_69 => ?_)
        · replace h := h.2 c_69
          refine lv_iconst (v := 0) hx hb dL_holds_197 (by decide) ?_
          refine W.widen (k := 320) (n := 8 * 320) (by omega) (by omega) ?_
          exact z_zret hx hb hr hlocks hW rfl ⟨h, (Or.inl rfl)⟩ dL_holds_198
        · replace h := h.1 c_69
          refine lv_aload_n hx hb dL_holds_171 rfl (lv_at hl 0 rfl) ?_
          refine lv_iload hx hb dL_holds_172 (lv_at hl 6 rfl) ?_
          obtain ⟨hb_70, h⟩ := h
          refine zxc_i (vx_runV (As := [.int x6]) (rest := []) ⟨hx, hb, hml, hown, hts⟩ (cX5_inHandsOf_ok l hlt D S0 g k68 x6 _ _ h) (cwV 1 hts gL_holds_X5_inHandsOf rfl rfl rfl (by decide +kernel) ⟨Nat.le_of_ble_eq_true rfl, Nat.le_of_ble_eq_true rfl⟩) (zpreV (q := (RX5, TX5, 7)) hE hs hW xC_U rfl) rfl rfl hl.1 rfl (lv_room (Nat.le_of_ble_eq_true rfl)) dL_holds_174 ⟨by show _ ≤ 320; omega, by show _ ≤ 8 * 320; omega⟩) hW (fun E ce q9 k72 H locs h hW hcell hv9 hcl9 => h.elim) (fun r71 k72 H locs h hW => ?_)
          replace hW := xW_start hW
          refine W.widen (k := n + 1 + 1) (n := 8 * (n + 1 + 1)) (by omega) (by omega) ?_
          refine lv_iload hx hb dL_holds_177 (lv_at hl 5 rfl) ?_
          refine lv_iconst (v := 1) hx hb dL_holds_179 (by decide) ?_
          refine lv_icmp_ne (tgt := 190) hx hb dL_holds_180 (by decide) (fun c_73 => ?_) (fun c_73 => ?_)
          · replace h := h.2 c_73
            refine lv_aload_n hx hb dL_holds_190 rfl (lv_at hl 2 rfl) ?_
            refine lv_iload hx hb dL_holds_191 (lv_at hl 4 rfl) ?_
            obtain ⟨hb_74, h⟩ := h
            refine zw_iald hx hb hE.1 hW (gC hc2) hb_74 dL_holds_193 ?_
            refine lv_icmp_eq (tgt := 199) hx hb dL_holds_194 (by decide) (fun c_75 => ?_) (fun c_75 => ?_)
            · replace h := h.1 c_75
              refine lv_iload_n hx hb dL_holds_199 rfl (lv_at hl 3 rfl) ?_
              refine lv_iconst (v := 1) hx hb dL_holds_200 (by decide) ?_
              refine lv_iload hx hb dL_holds_201 (lv_at hl 6 rfl) ?_
              refine lv_ishl hx hb dL_holds_203 ?_
              refine lv_ior hx hb dL_holds_204 ?_
              refine lv_istore_n (lv' := [(3, .int (x3 ||| (1 <<< (x6 &&& 31)))), (0, .ref S0), (1, .ref c1), (2, .ref c2), (4, .int x4), (5, .int x5), (6, .int x6)]) hx hb dL_holds_205 rfl hl (by decide) rfl (fun ls hl => ?_)
              exact tL_holds_206 l hlt D S0 g c1 c2 hx hb hr hml hown hts hlocks hs hE Q K hK (x3 ||| (1 <<< (x6 &&& 31))) x4 f1_ f2_ (n + 1 + 1) k72 _ _ _ h hc1 hc2 hW (lv_sub hl [1, 2, 3, 0, 4] rfl)
            · replace h := h.2 c_75
              refine lv_iconst (v := 0) hx hb dL_holds_197 (by decide) ?_
              refine W.widen (k := 320) (n := 8 * 320) (by omega) (by omega) ?_
              exact z_zret hx hb hr hlocks hW rfl ⟨h, (Or.inl rfl)⟩ dL_holds_198
          · replace h := h.1 c_73
            refine lv_aload_n hx hb dL_holds_183 rfl (lv_at hl 1 rfl) ?_
            refine lv_iload hx hb dL_holds_184 (lv_at hl 6 rfl) ?_
            obtain ⟨hb_76, h⟩ := h
            refine zw_iald hx hb hE.1 hW (gC hc1) hb_76 dL_holds_186 ?_
            refine lv_goto (tgt := 194) hx hb dL_holds_187 (by decide) ?_
            refine lv_icmp_eq (tgt := 199) hx hb dL_holds_194 (by decide) (fun c_77 => ?_) (fun c_77 => ?_)
            · replace h := h.1 c_77
              refine lv_iload_n hx hb dL_holds_199 rfl (lv_at hl 3 rfl) ?_
              refine lv_iconst (v := 1) hx hb dL_holds_200 (by decide) ?_
              refine lv_iload hx hb dL_holds_201 (lv_at hl 6 rfl) ?_
              refine lv_ishl hx hb dL_holds_203 ?_
              refine lv_ior hx hb dL_holds_204 ?_
              refine lv_istore_n (lv' := [(3, .int (x3 ||| (1 <<< (x6 &&& 31)))), (0, .ref S0), (1, .ref c1), (2, .ref c2), (4, .int x4), (5, .int x5), (6, .int x6)]) hx hb dL_holds_205 rfl hl (by decide) rfl (fun ls hl => ?_)
              exact tL_holds_206 l hlt D S0 g c1 c2 hx hb hr hml hown hts hlocks hs hE Q K hK (x3 ||| (1 <<< (x6 &&& 31))) x4 f1_ f2_ (n + 1 + 1) k72 _ _ _ h hc1 hc2 hW (lv_sub hl [1, 2, 3, 0, 4] rfl)
            · replace h := h.2 c_77
              refine lv_iconst (v := 0) hx hb dL_holds_197 (by decide) ?_
              refine W.widen (k := 320) (n := 8 * 320) (by omega) (by omega) ?_
              exact z_zret hx hb hr hlocks hW rfl ⟨h, (Or.inl rfl)⟩ dL_holds_198
def wL_holds_106 (S0 : Nat) (Q : Int32 → kS → Prop) (K : Int32 → Int32 → (Nat → Int32) → (Nat → Int32) → Nat → kS → Prop) (x3 : Int32) (x4 : Int32) (x5 : Int32) (x6 : Int32) (f1_ : (Nat → Int32)) (f2_ : (Nat → Int32)) (n : Nat) (k : kS) : Prop := (n ≤ 320 ∧ ((x6 < 0 → (wL_holds_141 S0 Q K x3 x4 x5 x6 f1_ f2_ n k)) ∧ (¬ x6 < 0 → (vp_in x6 41 ∧ (vp_in x4 41 ∧ (((f1_ (x6.toNatClampNeg)) = (f2_ (x4.toNatClampNeg)) → Q 0 k) ∧ (¬ (f1_ (x6.toNatClampNeg)) = (f2_ (x4.toNatClampNeg)) → (vp_in (20 + x6) 41 ∧ (vp_in (20 + x4) 41 ∧ (((f1_ ((20 + x6).toNatClampNeg)) = (f2_ ((20 + x4).toNatClampNeg)) → (wL_holds_141 S0 Q K x3 x4 x5 x6 f1_ f2_ n k)) ∧ (¬ (f1_ ((20 + x6).toNatClampNeg)) = (f2_ ((20 + x4).toNatClampNeg)) → Q 0 k)))))))))))
set_option maxHeartbeats 40000000 in
set_option maxRecDepth 100000 in
theorem tL_holds_106 (l : Launch) (hlt : l.stackTraces = false) (D : zD) (S0 : Nat) (g : zF) (c1 : Nat) (c2 : Nat) {p : Program} {e : Env} {s : State} {m : MethodId} {args : Array Value} {below : List Frame} {meth : Method} {c : Code} (hx : p.tables.exec = Jvm.exec) (hb : c.code = cL_holds) (hr : meth.sig.returnType = (some .boolean)) (hml : c.maxLocals = 7) (hown : s.vm.findClass yL_holds.cls = some m.cls) (hts : ∀ w ∈ wsL_holds, w.before args s = true) (hlocks : meth.locks = false) (hs : S0 ≤ s.heap.size) (hE : zE D S0 s) (Q : Int32 → kS → Prop) (K : Int32 → Int32 → (Nat → Int32) → (Nat → Int32) → Nat → kS → Prop) (hK : ∀ (x3 : Int32) (x4 : Int32) (f1_ : Nat → Int32) (f2_ : Nat → Int32) (n : Nat) (k : kS) (H : Heap) (locs : List Loc) (ls : Array Slot), K x3 x4 f1_ f2_ n k → gA D S0 g c1 41 f1_ → gA D S0 g c2 41 f2_ → zW D S0 (xR D S0 g k k) s.heap H locs → lv_has ls 7 [(0, .ref S0), (1, .ref c1), (2, .ref c2), (3, .int x3), (4, .int x4)] → W p l e { frames := 9, cells := 320, slots := 8 * 320, locals := 156 } s m args below meth c H locs n (8 * n) (MQ below (va_Qi (fun r u => Q r u ∧ (r = 0 ∨ r = 1)) (zB D S0 (fun u => xR D S0 g u u)) (zA S0)) args s 320 (8 * 320) (zA S0)) (F0 m 5 ls [])) : ∀ (x3 : Int32) (x4 : Int32) (x5 : Int32) (x6 : Int32) (f1_ : Nat → Int32) (f2_ : Nat → Int32) (n : Nat) (k : kS) (H : Heap) (locs : List Loc) (ls : Array Slot), wL_holds_106 S0 Q K x3 x4 x5 x6 f1_ f2_ n k → gA D S0 g c1 41 f1_ → gA D S0 g c2 41 f2_ → zW D S0 (xR D S0 g k k) s.heap H locs → lv_has ls 7 [(0, .ref S0), (1, .ref c1), (2, .ref c2), (3, .int x3), (4, .int x4), (5, .int x5), (6, .int x6)] → W p l e { frames := 9, cells := 320, slots := 8 * 320, locals := 156 } s m args below meth c H locs n (8 * n) (MQ below (va_Qi (fun r u => Q r u ∧ (r = 0 ∨ r = 1)) (zB D S0 (fun u => xR D S0 g u u)) (zA S0)) args s 320 (8 * 320) (zA S0)) (F0 m 106 ls []) := by
  intro x3 x4 x5 x6 f1_ f2_ n k H locs ls h hc1 hc2 hW hl
  unfold wL_holds_106 at h
  obtain ⟨hb_n, h⟩ := h
  refine lv_iload hx hb dL_holds_106 (lv_at hl 6 rfl) ?_
  refine lv_if_lt (tgt := 141) hx hb dL_holds_108 (by decide) (fun c_62 => ?_) (fun c_62 => ?_)
  · replace h := h.1 c_62
    exact tL_holds_141 l hlt D S0 g c1 c2 hx hb hr hml hown hts hlocks hs hE Q K hK x3 x4 x5 x6 f1_ f2_ n k _ _ _ h hc1 hc2 hW (lv_sub hl [0, 1, 2, 3, 4, 5, 6] rfl)
  · replace h := h.2 c_62
    refine lv_aload_n hx hb dL_holds_111 rfl (lv_at hl 1 rfl) ?_
    refine lv_iload hx hb dL_holds_112 (lv_at hl 6 rfl) ?_
    obtain ⟨hb_78, h⟩ := h
    refine zw_iald hx hb hE.1 hW (gC hc1) hb_78 dL_holds_114 ?_
    refine lv_aload_n hx hb dL_holds_115 rfl (lv_at hl 2 rfl) ?_
    refine lv_iload hx hb dL_holds_116 (lv_at hl 4 rfl) ?_
    obtain ⟨hb_79, h⟩ := h
    refine zw_iald hx hb hE.1 hW (gC hc2) hb_79 dL_holds_118 ?_
    refine lv_icmp_eq (tgt := 139) hx hb dL_holds_119 (by decide) (fun c_80 => ?_) (fun c_80 => ?_)
    · replace h := h.1 c_80
      refine lv_iconst (v := 0) hx hb dL_holds_139 (by decide) ?_
      refine W.widen (k := 320) (n := 8 * 320) (by omega) (by omega) ?_
      exact z_zret hx hb hr hlocks hW rfl ⟨h, (Or.inl rfl)⟩ dL_holds_140
    · replace h := h.2 c_80
      refine lv_aload_n hx hb dL_holds_122 rfl (lv_at hl 1 rfl) ?_
      refine lv_bipush (v := 20) hx hb dL_holds_123 (by decide) ?_
      refine lv_iload hx hb dL_holds_125 (lv_at hl 6 rfl) ?_
      refine lv_iadd hx hb dL_holds_127 ?_
      obtain ⟨hb_81, h⟩ := h
      refine zw_iald hx hb hE.1 hW (gC hc1) hb_81 dL_holds_128 ?_
      refine lv_aload_n hx hb dL_holds_129 rfl (lv_at hl 2 rfl) ?_
      refine lv_bipush (v := 20) hx hb dL_holds_130 (by decide) ?_
      refine lv_iload hx hb dL_holds_132 (lv_at hl 4 rfl) ?_
      refine lv_iadd hx hb dL_holds_134 ?_
      obtain ⟨hb_82, h⟩ := h
      refine zw_iald hx hb hE.1 hW (gC hc2) hb_82 dL_holds_135 ?_
      refine lv_icmp_eq (tgt := 141) hx hb dL_holds_136 (by decide) (fun c_83 => ?_) (fun c_83 => ?_)
      · replace h := h.1 c_83
        exact tL_holds_141 l hlt D S0 g c1 c2 hx hb hr hml hown hts hlocks hs hE Q K hK x3 x4 x5 x6 f1_ f2_ n k _ _ _ h hc1 hc2 hW (lv_sub hl [0, 1, 2, 3, 4, 5, 6] rfl)
      · replace h := h.2 c_83
        refine lv_iconst (v := 0) hx hb dL_holds_139 (by decide) ?_
        refine W.widen (k := 320) (n := 8 * 320) (by omega) (by omega) ?_
        exact z_zret hx hb hr hlocks hW rfl ⟨h, (Or.inl rfl)⟩ dL_holds_140
def wL_holds_5 (S0 : Nat) (Q : Int32 → kS → Prop) : Nat → Int32 → Int32 → (Nat → Int32) → (Nat → Int32) → Nat → kS → Prop
  | 0, _, _, _, _, _, _ => False
  | f + 1, x3, x4, f1_, f2_, n, k => (n ≤ 320 ∧ (vp_in 40 41 ∧ (((f2_ ((40 : Int32).toNatClampNeg)) ≤ x4 → (wL_holds_212 S0 Q x3 f1_ f2_ n k)) ∧ (¬ (f2_ ((40 : Int32).toNatClampNeg)) ≤ x4 → (n + 1 ≤ 320 ∧ (wX5_state S0 k x4 (fun r46 k47 => (n + 1 + 1 ≤ 320 ∧ (wX5_copyOf S0 k47 x4 (fun r49 k50 => ((r46 < 0 → Q 0 k50) ∧ (¬ r46 < 0 → (((5 : Int32) < r46 → Q 0 k50) ∧ (¬ (5 : Int32) < r46 → (((0 : Int32) ≤ r49 → ((r46 = 5 → Q 0 k50) ∧ (¬ r46 = 5 → (vp_in 40 41 ∧ (((f1_ ((40 : Int32).toNatClampNeg)) ≤ r49 → Q 0 k50) ∧ (¬ (f1_ ((40 : Int32).toNatClampNeg)) ≤ r49 → (n + 1 + 1 + 2 ≤ 320 ∧ (wL_due S0 k50 x4 (fun r58 k59 => ((r58 = (-4) → ((r46 = 2 → Q 0 k59) ∧ (¬ r46 = 2 → (wL_holds_106 S0 Q (wL_holds_5 S0 Q f) x3 x4 r46 r49 f1_ f2_ (n + 1 + 1 + 2) k59)))) ∧ (¬ r58 = (-4) → ((r46 = 2 → (wL_holds_106 S0 Q (wL_holds_5 S0 Q f) x3 x4 r46 r49 f1_ f2_ (n + 1 + 1 + 2) k59)) ∧ (¬ r46 = 2 → Q 0 k59))))))))))))) ∧ (¬ (0 : Int32) ≤ r49 → ((r46 = 5 → (vp_in 40 41 ∧ (((f1_ ((40 : Int32).toNatClampNeg)) ≤ r49 → Q 0 k50) ∧ (¬ (f1_ ((40 : Int32).toNatClampNeg)) ≤ r49 → (n + 1 + 1 + 2 ≤ 320 ∧ (wL_due S0 k50 x4 (fun r89 k90 => ((r89 = (-4) → ((r46 = 2 → Q 0 k90) ∧ (¬ r46 = 2 → (wL_holds_106 S0 Q (wL_holds_5 S0 Q f) x3 x4 r46 r49 f1_ f2_ (n + 1 + 1 + 2) k90)))) ∧ (¬ r89 = (-4) → ((r46 = 2 → (wL_holds_106 S0 Q (wL_holds_5 S0 Q f) x3 x4 r46 r49 f1_ f2_ (n + 1 + 1 + 2) k90)) ∧ (¬ r46 = 2 → Q 0 k90))))))))))) ∧ (¬ r46 = 5 → Q 0 k50))))))))) (fun _ _ => False)))) (fun _ _ => False)))))))
set_option maxHeartbeats 40000000 in
set_option maxRecDepth 100000 in
theorem tL_holds_5 (l : Launch) (hlt : l.stackTraces = false) (D : zD) (S0 : Nat) (g : zF) (c1 : Nat) (c2 : Nat) {p : Program} {e : Env} {s : State} {m : MethodId} {args : Array Value} {below : List Frame} {meth : Method} {c : Code} (hx : p.tables.exec = Jvm.exec) (hb : c.code = cL_holds) (hr : meth.sig.returnType = (some .boolean)) (hml : c.maxLocals = 7) (hown : s.vm.findClass yL_holds.cls = some m.cls) (hts : ∀ w ∈ wsL_holds, w.before args s = true) (hlocks : meth.locks = false) (hs : S0 ≤ s.heap.size) (hE : zE D S0 s) (Q : Int32 → kS → Prop) : ∀ f : Nat, ∀ (x3 : Int32) (x4 : Int32) (f1_ : Nat → Int32) (f2_ : Nat → Int32) (n : Nat) (k : kS) (H : Heap) (locs : List Loc) (ls : Array Slot), wL_holds_5 S0 Q f x3 x4 f1_ f2_ n k → gA D S0 g c1 41 f1_ → gA D S0 g c2 41 f2_ → zW D S0 (xR D S0 g k k) s.heap H locs → lv_has ls 7 [(0, .ref S0), (1, .ref c1), (2, .ref c2), (3, .int x3), (4, .int x4)] → W p l e { frames := 9, cells := 320, slots := 8 * 320, locals := 156 } s m args below meth c H locs n (8 * n) (MQ below (va_Qi (fun r u => Q r u ∧ (r = 0 ∨ r = 1)) (zB D S0 (fun u => xR D S0 g u u)) (zA S0)) args s 320 (8 * 320) (zA S0)) (F0 m 5 ls []) := by
  intro f
  induction f with
  | zero => intro x3 x4 f1_ f2_ n k H locs ls h; exact h.elim
  | succ f ih =>
    intro x3 x4 f1_ f2_ n k H locs ls h hc1 hc2 hW hl
    unfold wL_holds_5 at h
    obtain ⟨hb_n, h⟩ := h
    refine lv_iload hx hb dL_holds_5 (lv_at hl 4 rfl) ?_
    refine lv_aload_n hx hb dL_holds_7 rfl (lv_at hl 2 rfl) ?_
    refine lv_bipush (v := 40) hx hb dL_holds_8 (by decide) ?_
    obtain ⟨hb_1, h⟩ := h
    refine zw_iald hx hb hE.1 hW (gC hc2) hb_1 dL_holds_10 ?_
    refine lv_icmp_ge (tgt := 212) hx hb dL_holds_11 (by decide) (fun c_2 => ?_) (fun c_2 => ?_)
    · replace h := h.1 c_2
      exact tL_holds_212 l hlt D S0 g c1 c2 hx hb hr hml hown hts hlocks hs hE Q x3 f1_ f2_ n k _ _ _ h hc1 hc2 hW (lv_sub hl [0, 1, 2, 3] rfl)
    · replace h := h.2 c_2
      refine lv_aload_n hx hb dL_holds_14 rfl (lv_at hl 0 rfl) ?_
      refine lv_iload hx hb dL_holds_15 (lv_at hl 4 rfl) ?_
      obtain ⟨hb_45, h⟩ := h
      refine zxc_i (vx_runV (As := [.int x4]) (rest := []) ⟨hx, hb, hml, hown, hts⟩ (cX5_state_ok l hlt D S0 g k x4 _ _ h) (cwV 1 hts gL_holds_X5_state rfl rfl rfl (by decide +kernel) ⟨Nat.le_of_ble_eq_true rfl, Nat.le_of_ble_eq_true rfl⟩) (zpreV (q := (RX5, TX5, 7)) hE hs hW xC_U rfl) rfl rfl hl.1 rfl (lv_room (Nat.le_of_ble_eq_true rfl)) dL_holds_17 ⟨by show _ ≤ 320; omega, by show _ ≤ 8 * 320; omega⟩) hW (fun E ce q9 k47 H locs h hW hcell hv9 hcl9 => h.elim) (fun r46 k47 H locs h hW => ?_)
      replace hW := xW_start hW
      refine W.widen (k := n + 1) (n := 8 * (n + 1)) (by omega) (by omega) ?_
      refine lv_istore (lv' := [(5, .int r46), (0, .ref S0), (1, .ref c1), (2, .ref c2), (3, .int x3), (4, .int x4)]) hx hb dL_holds_20 hl (by decide) rfl (fun ls hl => ?_)
      refine lv_aload_n hx hb dL_holds_22 rfl (lv_at hl 1 rfl) ?_
      refine lv_iload hx hb dL_holds_23 (lv_at hl 5 rfl) ?_
      obtain ⟨hb_48, h⟩ := h
      refine zxc_i (vx_runV (As := [.int x4]) (rest := []) ⟨hx, hb, hml, hown, hts⟩ (cX5_copyOf_ok l hlt D S0 g k47 x4 _ _ h) (cwV 1 hts gL_holds_X5_copyOf rfl rfl rfl (by decide +kernel) ⟨Nat.le_of_ble_eq_true rfl, Nat.le_of_ble_eq_true rfl⟩) (zpreV (q := (RX5, TX5, 7)) hE hs hW xC_U rfl) rfl rfl hl.1 rfl (lv_room (Nat.le_of_ble_eq_true rfl)) dL_holds_25 ⟨by show _ ≤ 320; omega, by show _ ≤ 8 * 320; omega⟩) hW (fun E ce q9 k50 H locs h hW hcell hv9 hcl9 => h.elim) (fun r49 k50 H locs h hW => ?_)
      replace hW := xW_start hW
      refine W.widen (k := n + 1 + 1) (n := 8 * (n + 1 + 1)) (by omega) (by omega) ?_
      refine lv_istore (lv' := [(6, .int r49), (5, .int r46), (0, .ref S0), (1, .ref c1), (2, .ref c2), (3, .int x3), (4, .int x4)]) hx hb dL_holds_28 hl (by decide) rfl (fun ls hl => ?_)
      refine lv_iload hx hb dL_holds_30 (lv_at hl 1 rfl) ?_
      refine lv_if_lt (tgt := 104) hx hb dL_holds_32 (by decide) (fun c_51 => ?_) (fun c_51 => ?_)
      · replace h := h.1 c_51
        refine lv_iconst (v := 0) hx hb dL_holds_104 (by decide) ?_
        refine W.widen (k := 320) (n := 8 * 320) (by omega) (by omega) ?_
        exact z_zret hx hb hr hlocks hW rfl ⟨h, (Or.inl rfl)⟩ dL_holds_105
      · replace h := h.2 c_51
        refine lv_iload hx hb dL_holds_35 (lv_at hl 1 rfl) ?_
        refine lv_iconst (v := 5) hx hb dL_holds_37 (by decide) ?_
        refine lv_icmp_gt (tgt := 104) hx hb dL_holds_38 (by decide) (fun c_52 => ?_) (fun c_52 => ?_)
        · replace h := h.1 c_52
          refine lv_iconst (v := 0) hx hb dL_holds_104 (by decide) ?_
          refine W.widen (k := 320) (n := 8 * 320) (by omega) (by omega) ?_
          exact z_zret hx hb hr hlocks hW rfl ⟨h, (Or.inl rfl)⟩ dL_holds_105
        · replace h := h.2 c_52
          refine lv_iload hx hb dL_holds_41 (lv_at hl 0 rfl) ?_
          refine lv_if_ge (tgt := 50) hx hb dL_holds_43 (by decide) (fun c_53 => ?_) (fun c_53 => ?_)
          · replace h := h.1 c_53
            refine lv_iconst (v := 0) hx hb dL_holds_50 (by decide) ?_
            refine lv_iload hx hb dL_holds_51 (lv_at hl 1 rfl) ?_
            refine lv_iconst (v := 5) hx hb dL_holds_53 (by decide) ?_
            refine lv_icmp_ne (tgt := 61) hx hb dL_holds_54 (by decide) (fun c_54 => ?_) (fun c_54 => ?_)
            · replace h := h.2 c_54
              refine lv_iconst (v := 0) hx hb dL_holds_61 (by decide) ?_
              refine lv_icmp_ne (tgt := 104) hx hb dL_holds_62 (by decide) (fun h9 => absurd (by decide) h9) (fun _ => ?_)
              refine lv_iload hx hb dL_holds_65 (lv_at hl 0 rfl) ?_
              refine lv_aload_n hx hb dL_holds_67 rfl (lv_at hl 3 rfl) ?_
              refine lv_bipush (v := 40) hx hb dL_holds_68 (by decide) ?_
              obtain ⟨hb_55, h⟩ := h
              refine zw_iald hx hb hE.1 hW (gC hc1) hb_55 dL_holds_70 ?_
              refine lv_icmp_ge (tgt := 104) hx hb dL_holds_71 (by decide) (fun c_56 => ?_) (fun c_56 => ?_)
              · replace h := h.1 c_56
                refine lv_iconst (v := 0) hx hb dL_holds_104 (by decide) ?_
                refine W.widen (k := 320) (n := 8 * 320) (by omega) (by omega) ?_
                exact z_zret hx hb hr hlocks hW rfl ⟨h, (Or.inl rfl)⟩ dL_holds_105
              · replace h := h.2 c_56
                refine lv_aload_n hx hb dL_holds_74 rfl (lv_at hl 2 rfl) ?_
                refine lv_iload hx hb dL_holds_75 (lv_at hl 6 rfl) ?_
                obtain ⟨hb_57, h⟩ := h
                refine zc_i (vx_runSW (As := [.ref S0, .int x4]) (rest := []) ⟨hx, hb, hml, hown, hts⟩ (cL_due_ok l hlt D S0 g k50 x4 _ h) (vx_cwSW 2 hts gL_holds_L_due rfl rfl rfl (by decide +kernel) ⟨Nat.le_of_ble_eq_true rfl, Nat.le_of_ble_eq_true rfl⟩) (zpreS hE hs hW) rfl rfl hl.1 rfl (lv_room (Nat.le_of_ble_eq_true rfl)) dL_holds_77 ⟨by show _ ≤ 320; omega, by show _ ≤ 8 * 320; omega⟩) hW (fun r58 k59 H locs h hW => ?_)
                replace hW := xW_start hW
                refine W.widen (k := n + 1 + 1 + 2) (n := 8 * (n + 1 + 1 + 2)) (by omega) (by omega) ?_
                refine lv_bipush (v := (-4)) hx hb dL_holds_80 (by decide) ?_
                refine lv_icmp_ne (tgt := 89) hx hb dL_holds_82 (by decide) (fun c_60 => ?_) (fun c_60 => ?_)
                · replace h := h.2 c_60
                  refine lv_iconst (v := 0) hx hb dL_holds_89 (by decide) ?_
                  refine lv_iload hx hb dL_holds_90 (lv_at hl 1 rfl) ?_
                  refine lv_iconst (v := 2) hx hb dL_holds_92 (by decide) ?_
                  refine lv_icmp_ne (tgt := 100) hx hb dL_holds_93 (by decide) (fun c_61 => ?_) (fun c_61 => ?_)
                  · replace h := h.2 c_61
                    refine lv_iconst (v := 0) hx hb dL_holds_100 (by decide) ?_
                    refine lv_icmp_ne (tgt := 106) hx hb dL_holds_101 (by decide) (fun h9 => absurd (by decide) h9) (fun _ => ?_)
                    refine lv_iconst (v := 0) hx hb dL_holds_104 (by decide) ?_
                    refine W.widen (k := 320) (n := 8 * 320) (by omega) (by omega) ?_
                    exact z_zret hx hb hr hlocks hW rfl ⟨h, (Or.inl rfl)⟩ dL_holds_105
                  · replace h := h.1 c_61
                    refine lv_iconst (v := 1) hx hb dL_holds_96 (by decide) ?_
                    refine lv_goto (tgt := 101) hx hb dL_holds_97 (by decide) ?_
                    refine lv_icmp_ne (tgt := 106) hx hb dL_holds_101 (by decide) (fun _ => ?_) (fun h9 => absurd h9 (by decide))
                    exact tL_holds_106 l hlt D S0 g c1 c2 hx hb hr hml hown hts hlocks hs hE Q (wL_holds_5 S0 Q f) ih x3 x4 r46 r49 f1_ f2_ (n + 1 + 1 + 2) k59 _ _ _ h hc1 hc2 hW (lv_sub hl [2, 3, 4, 5, 6, 1, 0] rfl)
                · replace h := h.1 c_60
                  refine lv_iconst (v := 1) hx hb dL_holds_85 (by decide) ?_
                  refine lv_goto (tgt := 90) hx hb dL_holds_86 (by decide) ?_
                  refine lv_iload hx hb dL_holds_90 (lv_at hl 1 rfl) ?_
                  refine lv_iconst (v := 2) hx hb dL_holds_92 (by decide) ?_
                  refine lv_icmp_ne (tgt := 100) hx hb dL_holds_93 (by decide) (fun c_84 => ?_) (fun c_84 => ?_)
                  · replace h := h.2 c_84
                    refine lv_iconst (v := 0) hx hb dL_holds_100 (by decide) ?_
                    refine lv_icmp_ne (tgt := 106) hx hb dL_holds_101 (by decide) (fun _ => ?_) (fun h9 => absurd h9 (by decide))
                    exact tL_holds_106 l hlt D S0 g c1 c2 hx hb hr hml hown hts hlocks hs hE Q (wL_holds_5 S0 Q f) ih x3 x4 r46 r49 f1_ f2_ (n + 1 + 1 + 2) k59 _ _ _ h hc1 hc2 hW (lv_sub hl [2, 3, 4, 5, 6, 1, 0] rfl)
                  · replace h := h.1 c_84
                    refine lv_iconst (v := 1) hx hb dL_holds_96 (by decide) ?_
                    refine lv_goto (tgt := 101) hx hb dL_holds_97 (by decide) ?_
                    refine lv_icmp_ne (tgt := 106) hx hb dL_holds_101 (by decide) (fun h9 => absurd (by decide) h9) (fun _ => ?_)
                    refine lv_iconst (v := 0) hx hb dL_holds_104 (by decide) ?_
                    refine W.widen (k := 320) (n := 8 * 320) (by omega) (by omega) ?_
                    exact z_zret hx hb hr hlocks hW rfl ⟨h, (Or.inl rfl)⟩ dL_holds_105
            · replace h := h.1 c_54
              refine lv_iconst (v := 1) hx hb dL_holds_57 (by decide) ?_
              refine lv_goto (tgt := 62) hx hb dL_holds_58 (by decide) ?_
              refine lv_icmp_ne (tgt := 104) hx hb dL_holds_62 (by decide) (fun _ => ?_) (fun h9 => absurd h9 (by decide))
              refine lv_iconst (v := 0) hx hb dL_holds_104 (by decide) ?_
              refine W.widen (k := 320) (n := 8 * 320) (by omega) (by omega) ?_
              exact z_zret hx hb hr hlocks hW rfl ⟨h, (Or.inl rfl)⟩ dL_holds_105
          · replace h := h.2 c_53
            refine lv_iconst (v := 1) hx hb dL_holds_46 (by decide) ?_
            refine lv_goto (tgt := 51) hx hb dL_holds_47 (by decide) ?_
            refine lv_iload hx hb dL_holds_51 (lv_at hl 1 rfl) ?_
            refine lv_iconst (v := 5) hx hb dL_holds_53 (by decide) ?_
            refine lv_icmp_ne (tgt := 61) hx hb dL_holds_54 (by decide) (fun c_85 => ?_) (fun c_85 => ?_)
            · replace h := h.2 c_85
              refine lv_iconst (v := 0) hx hb dL_holds_61 (by decide) ?_
              refine lv_icmp_ne (tgt := 104) hx hb dL_holds_62 (by decide) (fun _ => ?_) (fun h9 => absurd h9 (by decide))
              refine lv_iconst (v := 0) hx hb dL_holds_104 (by decide) ?_
              refine W.widen (k := 320) (n := 8 * 320) (by omega) (by omega) ?_
              exact z_zret hx hb hr hlocks hW rfl ⟨h, (Or.inl rfl)⟩ dL_holds_105
            · replace h := h.1 c_85
              refine lv_iconst (v := 1) hx hb dL_holds_57 (by decide) ?_
              refine lv_goto (tgt := 62) hx hb dL_holds_58 (by decide) ?_
              refine lv_icmp_ne (tgt := 104) hx hb dL_holds_62 (by decide) (fun h9 => absurd (by decide) h9) (fun _ => ?_)
              refine lv_iload hx hb dL_holds_65 (lv_at hl 0 rfl) ?_
              refine lv_aload_n hx hb dL_holds_67 rfl (lv_at hl 3 rfl) ?_
              refine lv_bipush (v := 40) hx hb dL_holds_68 (by decide) ?_
              obtain ⟨hb_86, h⟩ := h
              refine zw_iald hx hb hE.1 hW (gC hc1) hb_86 dL_holds_70 ?_
              refine lv_icmp_ge (tgt := 104) hx hb dL_holds_71 (by decide) (fun c_87 => ?_) (fun c_87 => ?_)
              · replace h := h.1 c_87
                refine lv_iconst (v := 0) hx hb dL_holds_104 (by decide) ?_
                refine W.widen (k := 320) (n := 8 * 320) (by omega) (by omega) ?_
                exact z_zret hx hb hr hlocks hW rfl ⟨h, (Or.inl rfl)⟩ dL_holds_105
              · replace h := h.2 c_87
                refine lv_aload_n hx hb dL_holds_74 rfl (lv_at hl 2 rfl) ?_
                refine lv_iload hx hb dL_holds_75 (lv_at hl 6 rfl) ?_
                obtain ⟨hb_88, h⟩ := h
                refine zc_i (vx_runSW (As := [.ref S0, .int x4]) (rest := []) ⟨hx, hb, hml, hown, hts⟩ (cL_due_ok l hlt D S0 g k50 x4 _ h) (vx_cwSW 2 hts gL_holds_L_due rfl rfl rfl (by decide +kernel) ⟨Nat.le_of_ble_eq_true rfl, Nat.le_of_ble_eq_true rfl⟩) (zpreS hE hs hW) rfl rfl hl.1 rfl (lv_room (Nat.le_of_ble_eq_true rfl)) dL_holds_77 ⟨by show _ ≤ 320; omega, by show _ ≤ 8 * 320; omega⟩) hW (fun r89 k90 H locs h hW => ?_)
                replace hW := xW_start hW
                refine W.widen (k := n + 1 + 1 + 2) (n := 8 * (n + 1 + 1 + 2)) (by omega) (by omega) ?_
                refine lv_bipush (v := (-4)) hx hb dL_holds_80 (by decide) ?_
                refine lv_icmp_ne (tgt := 89) hx hb dL_holds_82 (by decide) (fun c_91 => ?_) (fun c_91 => ?_)
                · replace h := h.2 c_91
                  refine lv_iconst (v := 0) hx hb dL_holds_89 (by decide) ?_
                  refine lv_iload hx hb dL_holds_90 (lv_at hl 1 rfl) ?_
                  refine lv_iconst (v := 2) hx hb dL_holds_92 (by decide) ?_
                  refine lv_icmp_ne (tgt := 100) hx hb dL_holds_93 (by decide) (fun c_92 => ?_) (fun c_92 => ?_)
                  · replace h := h.2 c_92
                    refine lv_iconst (v := 0) hx hb dL_holds_100 (by decide) ?_
                    refine lv_icmp_ne (tgt := 106) hx hb dL_holds_101 (by decide) (fun h9 => absurd (by decide) h9) (fun _ => ?_)
                    refine lv_iconst (v := 0) hx hb dL_holds_104 (by decide) ?_
                    refine W.widen (k := 320) (n := 8 * 320) (by omega) (by omega) ?_
                    exact z_zret hx hb hr hlocks hW rfl ⟨h, (Or.inl rfl)⟩ dL_holds_105
                  · replace h := h.1 c_92
                    refine lv_iconst (v := 1) hx hb dL_holds_96 (by decide) ?_
                    refine lv_goto (tgt := 101) hx hb dL_holds_97 (by decide) ?_
                    refine lv_icmp_ne (tgt := 106) hx hb dL_holds_101 (by decide) (fun _ => ?_) (fun h9 => absurd h9 (by decide))
                    exact tL_holds_106 l hlt D S0 g c1 c2 hx hb hr hml hown hts hlocks hs hE Q (wL_holds_5 S0 Q f) ih x3 x4 r46 r49 f1_ f2_ (n + 1 + 1 + 2) k90 _ _ _ h hc1 hc2 hW (lv_sub hl [2, 3, 4, 5, 6, 1, 0] rfl)
                · replace h := h.1 c_91
                  refine lv_iconst (v := 1) hx hb dL_holds_85 (by decide) ?_
                  refine lv_goto (tgt := 90) hx hb dL_holds_86 (by decide) ?_
                  refine lv_iload hx hb dL_holds_90 (lv_at hl 1 rfl) ?_
                  refine lv_iconst (v := 2) hx hb dL_holds_92 (by decide) ?_
                  refine lv_icmp_ne (tgt := 100) hx hb dL_holds_93 (by decide) (fun c_93 => ?_) (fun c_93 => ?_)
                  · replace h := h.2 c_93
                    refine lv_iconst (v := 0) hx hb dL_holds_100 (by decide) ?_
                    refine lv_icmp_ne (tgt := 106) hx hb dL_holds_101 (by decide) (fun _ => ?_) (fun h9 => absurd h9 (by decide))
                    exact tL_holds_106 l hlt D S0 g c1 c2 hx hb hr hml hown hts hlocks hs hE Q (wL_holds_5 S0 Q f) ih x3 x4 r46 r49 f1_ f2_ (n + 1 + 1 + 2) k90 _ _ _ h hc1 hc2 hW (lv_sub hl [2, 3, 4, 5, 6, 1, 0] rfl)
                  · replace h := h.1 c_93
                    refine lv_iconst (v := 1) hx hb dL_holds_96 (by decide) ?_
                    refine lv_goto (tgt := 101) hx hb dL_holds_97 (by decide) ?_
                    refine lv_icmp_ne (tgt := 106) hx hb dL_holds_101 (by decide) (fun h9 => absurd (by decide) h9) (fun _ => ?_)
                    refine lv_iconst (v := 0) hx hb dL_holds_104 (by decide) ?_
                    refine W.widen (k := 320) (n := 8 * 320) (by omega) (by omega) ?_
                    exact z_zret hx hb hr hlocks hW rfl ⟨h, (Or.inl rfl)⟩ dL_holds_105
def wL_holds (S0 : Nat) (k0 : kS) (f1 : Nat → Int32) (f2 : Nat → Int32) (Q : Int32 → kS → Prop) : Prop := (∃ f94 : Nat, wL_holds_5 S0 Q f94 0 0 f1 f2 0 k0)
set_option maxHeartbeats 8000000 in
set_option maxRecDepth 100000 in
theorem cL_holds_ok (l : Launch) (hlt : l.stackTraces = false) (D : zD) (S0 : Nat) (g : zF) (k0 : kS) (c1 : Nat) (c2 : Nat) (f1 : Nat → Int32) (f2 : Nat → Int32) (hc1 : gA D S0 g c1 41 f1) (hc2 : gA D S0 g c2 41 f2) (Q : Int32 → kS → Prop) (h : wL_holds S0 k0 f1 f2 Q) : Met l yL_holds wsL_holds { frames := 9, cells := 320, slots := 8 * 320, locals := 156 } (zPc D S0 (xR D S0 g k0 k0) [.ref S0, .ref c1, .ref c2]) (va_Qi (fun r u => Q r u ∧ (r = 0 ∨ r = 1)) (zB D S0 (fun u => xR D S0 g u u)) (zA S0)) 320 (8 * 320) (zA S0) := by
  refine zMet (cc := cL_holds) (maxL := 7) (ret := (some .boolean)) (by decide) rfl (Nat.le_of_ble_eq_true rfl) (fun p e s m args below meth c ls hx hb hr hml hown hts hlocks hnm hs hE hW hl => ?_)
  replace hl : lv_has ls 7 [(0, .ref S0), (1, .ref c1), (2, .ref c2)] := hl
  unfold wL_holds at h
  refine lv_iconst (v := 0) hx hb dL_holds_0 (by decide) ?_
  refine lv_istore_n (lv' := [(3, .int 0), (0, .ref S0), (1, .ref c1), (2, .ref c2)]) hx hb dL_holds_1 rfl hl (by decide) rfl (fun ls hl => ?_)
  refine lv_iconst (v := 0) hx hb dL_holds_2 (by decide) ?_
  refine lv_istore (lv' := [(4, .int 0), (3, .int 0), (0, .ref S0), (1, .ref c1), (2, .ref c2)]) hx hb dL_holds_3 hl (by decide) rfl (fun ls hl => ?_)
  obtain ⟨f94, h⟩ := h
  exact tL_holds_5 l hlt D S0 g c1 c2 hx hb hr hml hown hts hlocks hs hE Q f94 0 0 f1 f2 0 k0 _ _ _ h hc1 hc2 hW (lv_sub hl [2, 3, 4, 1, 0] rfl)

