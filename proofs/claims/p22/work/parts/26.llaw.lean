def wL_law_455 (S0 : Nat) (L : Nat) (xs : Nat → Int32) (x4 : Int32) (f2_ : (Nat → Int32)) (f3_ : (Nat → Int32)) (n : Nat) (k : kS) : Prop := (n ≤ 100000 ∧ (n + 2 ≤ 100000 ∧ (wL_added S0 k 6 0 (fun r3 k4 => ((r3 = (-3) → (n + 2 + 2 ≤ 100000 ∧ (wL_asked S0 k4 0 8 (fun r7 k8 => ((r7 = (-3) → (n + 2 + 2 + 2 ≤ 100000 ∧ (wL_harmed S0 k8 (-1) (fun r11 k12 => ((r11 = (-2) → (n + 2 + 2 + 2 + 2 ≤ 100000 ∧ (wL_looked S0 k12 20 (fun r15 k16 => ((r15 = (-2) → (n + 2 + 2 + 2 + 2 + 2 ≤ 100000 ∧ (wL_mended S0 k16 (-1) (fun r19 k20 => ((r19 = (-2) → (n + 2 + 2 + 2 + 2 + 2 + 2 ≤ 100000 ∧ (wL_renewed S0 k20 40 (fun r23 k24 => ((r23 = (-2) → (n + 2 + 2 + 2 + 2 + 2 + 2 + 2 ≤ 100000 ∧ (wL_recalled S0 k24 (-1) (fun r27 k28 => ((r27 = (-2) → (n + 2 + 2 + 2 + 2 + 2 + 2 + 2 + 2 ≤ 100000 ∧ (wL_back S0 k28 40 (fun r31 k32 => ((r31 = (-2) → (n + 2 + 2 + 2 + 2 + 2 + 2 + 2 + 2 + 601 ≤ 100000 ∧ (wL_passed S0 k32 0 (fun r35 k36 => ((r35 = (-3) → (n + 2 + 2 + 2 + 2 + 2 + 2 + 2 + 2 + 601 + 601 ≤ 100000 ∧ (wL_passed S0 k36 101 (fun r39 k40 => ((r39 = (-3) → (n + 2 + 2 + 2 + 2 + 2 + 2 + 2 + 2 + 601 + 601 + 1 ≤ 100000 ∧ (wL_owed S0 k40 6 0 (fun r43 k44 => ((r43 = (-99) → (n + 2 + 2 + 2 + 2 + 2 + 2 + 2 + 2 + 601 + 601 + 1 + 1 ≤ 100000 ∧ (wL_owed S0 k44 0 0 (fun r47 k48 => ((r47 = 0 → True) ∧ (¬ r47 = 0 → False)))))) ∧ (¬ r43 = (-99) → False)))))) ∧ (¬ r39 = (-3) → False)))))) ∧ (¬ r35 = (-3) → False)))))) ∧ (¬ r31 = (-2) → False)))))) ∧ (¬ r27 = (-2) → False)))))) ∧ (¬ r23 = (-2) → False)))))) ∧ (¬ r19 = (-2) → False)))))) ∧ (¬ r15 = (-2) → False)))))) ∧ (¬ r11 = (-2) → False)))))) ∧ (¬ r7 = (-3) → False)))))) ∧ (¬ r3 = (-3) → False))))))
set_option maxHeartbeats 40000000 in
set_option maxRecDepth 100000 in
theorem tL_law_455 (l : Launch) (hlt : l.stackTraces = false) (D : zD) (S0 : Nat) (ah aq : Nat) (hne : ah ≠ aq) {p : Program} {e : Env} {s : State} {m : MethodId} {below : List Frame} {meth : Method} {c : Code} {b L : Nat} {xs : Nat → Int32} (hx : p.tables.exec = Jvm.exec) (hb : c.code = code) (hr : meth.sig.returnType = ret) (hml : c.maxLocals = 12) (hown : s.vm.findClass RL = some m.cls) (hts : ∀ w ∈ wsL_law, w.before #[Value.ref b] s = true) (hX : va_X b L xs s s.heap) (hbl : b < s.heap.size) (hbS : b < S0) (hlocks : meth.locks = false) (hS0 : S0 = s.heap.size) (hE : zE D S0 s) : ∀ (x4 : Int32) (f2_ : Nat → Int32) (f3_ : Nat → Int32) (n : Nat) (k : kS) (g : zF) (H : Heap) (locs : List Loc) (ls : Array Slot), wL_law_455 S0 L xs x4 f2_ f3_ n k → gA D S0 g ah 41 f2_ → gA D S0 g aq 41 f3_ → zW D S0 (xR D S0 g k k) s.heap H locs → lv_has ls 12 [(0, .ref b), (1, .ref S0), (2, .ref ah), (3, .ref aq), (4, .int x4)] → W p l e room_1 s m #[Value.ref b] below meth c H locs n (8 * n) (lw_Z below #[Value.ref b] s) (F0 m 455 ls []) := by
  have hs : S0 ≤ s.heap.size := Nat.le_of_eq hS0
  intro x4 f2_ f3_ n k g H locs ls h hah haq hW hl
  unfold wL_law_455 at h
  obtain ⟨hb_n, h⟩ := h
  refine lv_aload_n hx hb dL_law_455 rfl (lv_at hl 1 rfl) ?_
  refine lv_bipush (v := 6) hx hb dL_law_456 (by decide) ?_
  refine lv_iconst (v := 0) hx hb dL_law_458 (by decide) ?_
  obtain ⟨hb_2, h⟩ := h
  refine zc_i (vx_runSW (As := [.ref S0, .int 6, .int 0]) (rest := []) ⟨hx, hb, hml, hown, hts⟩ (cL_added_ok l hlt D S0 g k 6 0 _ h) (vx_cwSW 3 hts gL_law_L_added rfl rfl rfl (by decide +kernel) ⟨Nat.le_of_ble_eq_true rfl, Nat.le_of_ble_eq_true rfl⟩) (zpreS hE hs hW) rfl rfl hl.1 rfl (lv_room (Nat.le_of_ble_eq_true rfl)) dL_law_459 ⟨by show _ ≤ 653899; omega, by show _ ≤ 7139484; omega⟩) hW (fun r3 k4 H locs h hW => ?_)
  replace hW := xW_start hW
  refine W.widen (k := n + 2) (n := 8 * (n + 2)) (by omega) (by omega) ?_
  refine lv_bipush (v := (-3)) hx hb dL_law_462 (by decide) ?_
  refine lv_icmp_ne (tgt := 588) hx hb dL_law_464 (by decide) (fun c_5 => ?_) (fun c_5 => ?_)
  · replace h := h.2 c_5
    refine lv_iconst (v := 0) hx hb dL_law_588 (by decide) ?_
    exact h.elim
  · replace h := h.1 c_5
    refine lv_aload_n hx hb dL_law_467 rfl (lv_at hl 1 rfl) ?_
    refine lv_iconst (v := 0) hx hb dL_law_468 (by decide) ?_
    refine lv_bipush (v := 8) hx hb dL_law_469 (by decide) ?_
    obtain ⟨hb_6, h⟩ := h
    refine zc_i (vx_runSW (As := [.ref S0, .int 0, .int 8]) (rest := []) ⟨hx, hb, hml, hown, hts⟩ (cL_asked_ok l hlt D S0 g k4 0 8 _ h) (vx_cwSW 3 hts gL_law_L_asked rfl rfl rfl (by decide +kernel) ⟨Nat.le_of_ble_eq_true rfl, Nat.le_of_ble_eq_true rfl⟩) (zpreS hE hs hW) rfl rfl hl.1 rfl (lv_room (Nat.le_of_ble_eq_true rfl)) dL_law_471 ⟨by show _ ≤ 653899; omega, by show _ ≤ 7139484; omega⟩) hW (fun r7 k8 H locs h hW => ?_)
    replace hW := xW_start hW
    refine W.widen (k := n + 2 + 2) (n := 8 * (n + 2 + 2)) (by omega) (by omega) ?_
    refine lv_bipush (v := (-3)) hx hb dL_law_474 (by decide) ?_
    refine lv_icmp_ne (tgt := 588) hx hb dL_law_476 (by decide) (fun c_9 => ?_) (fun c_9 => ?_)
    · replace h := h.2 c_9
      refine lv_iconst (v := 0) hx hb dL_law_588 (by decide) ?_
      exact h.elim
    · replace h := h.1 c_9
      refine lv_aload_n hx hb dL_law_479 rfl (lv_at hl 1 rfl) ?_
      refine lv_iconst (v := (-1)) hx hb dL_law_480 (by decide) ?_
      obtain ⟨hb_10, h⟩ := h
      refine zc_i (vx_runSW (As := [.ref S0, .int (-1)]) (rest := []) ⟨hx, hb, hml, hown, hts⟩ (cL_harmed_ok l hlt D S0 g k8 (-1) _ h) (vx_cwSW 2 hts gL_law_L_harmed rfl rfl rfl (by decide +kernel) ⟨Nat.le_of_ble_eq_true rfl, Nat.le_of_ble_eq_true rfl⟩) (zpreS hE hs hW) rfl rfl hl.1 rfl (lv_room (Nat.le_of_ble_eq_true rfl)) dL_law_481 ⟨by show _ ≤ 653899; omega, by show _ ≤ 7139484; omega⟩) hW (fun r11 k12 H locs h hW => ?_)
      replace hW := xW_start hW
      refine W.widen (k := n + 2 + 2 + 2) (n := 8 * (n + 2 + 2 + 2)) (by omega) (by omega) ?_
      refine lv_bipush (v := (-2)) hx hb dL_law_484 (by decide) ?_
      refine lv_icmp_ne (tgt := 588) hx hb dL_law_486 (by decide) (fun c_13 => ?_) (fun c_13 => ?_)
      · replace h := h.2 c_13
        refine lv_iconst (v := 0) hx hb dL_law_588 (by decide) ?_
        exact h.elim
      · replace h := h.1 c_13
        refine lv_aload_n hx hb dL_law_489 rfl (lv_at hl 1 rfl) ?_
        refine lv_bipush (v := 20) hx hb dL_law_490 (by decide) ?_
        obtain ⟨hb_14, h⟩ := h
        refine zc_i (vx_runSW (As := [.ref S0, .int 20]) (rest := []) ⟨hx, hb, hml, hown, hts⟩ (cL_looked_ok l hlt D S0 g k12 20 _ h) (vx_cwSW 2 hts gL_law_L_looked rfl rfl rfl (by decide +kernel) ⟨Nat.le_of_ble_eq_true rfl, Nat.le_of_ble_eq_true rfl⟩) (zpreS hE hs hW) rfl rfl hl.1 rfl (lv_room (Nat.le_of_ble_eq_true rfl)) dL_law_492 ⟨by show _ ≤ 653899; omega, by show _ ≤ 7139484; omega⟩) hW (fun r15 k16 H locs h hW => ?_)
        replace hW := xW_start hW
        refine W.widen (k := n + 2 + 2 + 2 + 2) (n := 8 * (n + 2 + 2 + 2 + 2)) (by omega) (by omega) ?_
        refine lv_bipush (v := (-2)) hx hb dL_law_495 (by decide) ?_
        refine lv_icmp_ne (tgt := 588) hx hb dL_law_497 (by decide) (fun c_17 => ?_) (fun c_17 => ?_)
        · replace h := h.2 c_17
          refine lv_iconst (v := 0) hx hb dL_law_588 (by decide) ?_
          exact h.elim
        · replace h := h.1 c_17
          refine lv_aload_n hx hb dL_law_500 rfl (lv_at hl 1 rfl) ?_
          refine lv_iconst (v := (-1)) hx hb dL_law_501 (by decide) ?_
          obtain ⟨hb_18, h⟩ := h
          refine zc_i (vx_runSW (As := [.ref S0, .int (-1)]) (rest := []) ⟨hx, hb, hml, hown, hts⟩ (cL_mended_ok l hlt D S0 g k16 (-1) _ h) (vx_cwSW 2 hts gL_law_L_mended rfl rfl rfl (by decide +kernel) ⟨Nat.le_of_ble_eq_true rfl, Nat.le_of_ble_eq_true rfl⟩) (zpreS hE hs hW) rfl rfl hl.1 rfl (lv_room (Nat.le_of_ble_eq_true rfl)) dL_law_502 ⟨by show _ ≤ 653899; omega, by show _ ≤ 7139484; omega⟩) hW (fun r19 k20 H locs h hW => ?_)
          replace hW := xW_start hW
          refine W.widen (k := n + 2 + 2 + 2 + 2 + 2) (n := 8 * (n + 2 + 2 + 2 + 2 + 2)) (by omega) (by omega) ?_
          refine lv_bipush (v := (-2)) hx hb dL_law_505 (by decide) ?_
          refine lv_icmp_ne (tgt := 588) hx hb dL_law_507 (by decide) (fun c_21 => ?_) (fun c_21 => ?_)
          · replace h := h.2 c_21
            refine lv_iconst (v := 0) hx hb dL_law_588 (by decide) ?_
            exact h.elim
          · replace h := h.1 c_21
            refine lv_aload_n hx hb dL_law_510 rfl (lv_at hl 1 rfl) ?_
            refine lv_bipush (v := 40) hx hb dL_law_511 (by decide) ?_
            obtain ⟨hb_22, h⟩ := h
            refine zc_i (vx_runSW (As := [.ref S0, .int 40]) (rest := []) ⟨hx, hb, hml, hown, hts⟩ (cL_renewed_ok l hlt D S0 g k20 40 _ h) (vx_cwSW 2 hts gL_law_L_renewed rfl rfl rfl (by decide +kernel) ⟨Nat.le_of_ble_eq_true rfl, Nat.le_of_ble_eq_true rfl⟩) (zpreS hE hs hW) rfl rfl hl.1 rfl (lv_room (Nat.le_of_ble_eq_true rfl)) dL_law_513 ⟨by show _ ≤ 653899; omega, by show _ ≤ 7139484; omega⟩) hW (fun r23 k24 H locs h hW => ?_)
            replace hW := xW_start hW
            refine W.widen (k := n + 2 + 2 + 2 + 2 + 2 + 2) (n := 8 * (n + 2 + 2 + 2 + 2 + 2 + 2)) (by omega) (by omega) ?_
            refine lv_bipush (v := (-2)) hx hb dL_law_516 (by decide) ?_
            refine lv_icmp_ne (tgt := 588) hx hb dL_law_518 (by decide) (fun c_25 => ?_) (fun c_25 => ?_)
            · replace h := h.2 c_25
              refine lv_iconst (v := 0) hx hb dL_law_588 (by decide) ?_
              exact h.elim
            · replace h := h.1 c_25
              refine lv_aload_n hx hb dL_law_521 rfl (lv_at hl 1 rfl) ?_
              refine lv_iconst (v := (-1)) hx hb dL_law_522 (by decide) ?_
              obtain ⟨hb_26, h⟩ := h
              refine zc_i (vx_runSW (As := [.ref S0, .int (-1)]) (rest := []) ⟨hx, hb, hml, hown, hts⟩ (cL_recalled_ok l hlt D S0 g k24 (-1) _ h) (vx_cwSW 2 hts gL_law_L_recalled rfl rfl rfl (by decide +kernel) ⟨Nat.le_of_ble_eq_true rfl, Nat.le_of_ble_eq_true rfl⟩) (zpreS hE hs hW) rfl rfl hl.1 rfl (lv_room (Nat.le_of_ble_eq_true rfl)) dL_law_523 ⟨by show _ ≤ 653899; omega, by show _ ≤ 7139484; omega⟩) hW (fun r27 k28 H locs h hW => ?_)
              replace hW := xW_start hW
              refine W.widen (k := n + 2 + 2 + 2 + 2 + 2 + 2 + 2) (n := 8 * (n + 2 + 2 + 2 + 2 + 2 + 2 + 2)) (by omega) (by omega) ?_
              refine lv_bipush (v := (-2)) hx hb dL_law_526 (by decide) ?_
              refine lv_icmp_ne (tgt := 588) hx hb dL_law_528 (by decide) (fun c_29 => ?_) (fun c_29 => ?_)
              · replace h := h.2 c_29
                refine lv_iconst (v := 0) hx hb dL_law_588 (by decide) ?_
                exact h.elim
              · replace h := h.1 c_29
                refine lv_aload_n hx hb dL_law_531 rfl (lv_at hl 1 rfl) ?_
                refine lv_bipush (v := 40) hx hb dL_law_532 (by decide) ?_
                obtain ⟨hb_30, h⟩ := h
                refine zc_i (vx_runSW (As := [.ref S0, .int 40]) (rest := []) ⟨hx, hb, hml, hown, hts⟩ (cL_back_ok l hlt D S0 g k28 40 _ h) (vx_cwSW 2 hts gL_law_L_back rfl rfl rfl (by decide +kernel) ⟨Nat.le_of_ble_eq_true rfl, Nat.le_of_ble_eq_true rfl⟩) (zpreS hE hs hW) rfl rfl hl.1 rfl (lv_room (Nat.le_of_ble_eq_true rfl)) dL_law_534 ⟨by show _ ≤ 653899; omega, by show _ ≤ 7139484; omega⟩) hW (fun r31 k32 H locs h hW => ?_)
                replace hW := xW_start hW
                refine W.widen (k := n + 2 + 2 + 2 + 2 + 2 + 2 + 2 + 2) (n := 8 * (n + 2 + 2 + 2 + 2 + 2 + 2 + 2 + 2)) (by omega) (by omega) ?_
                refine lv_bipush (v := (-2)) hx hb dL_law_537 (by decide) ?_
                refine lv_icmp_ne (tgt := 588) hx hb dL_law_539 (by decide) (fun c_33 => ?_) (fun c_33 => ?_)
                · replace h := h.2 c_33
                  refine lv_iconst (v := 0) hx hb dL_law_588 (by decide) ?_
                  exact h.elim
                · replace h := h.1 c_33
                  refine lv_aload_n hx hb dL_law_542 rfl (lv_at hl 1 rfl) ?_
                  refine lv_iconst (v := 0) hx hb dL_law_543 (by decide) ?_
                  obtain ⟨hb_34, h⟩ := h
                  refine zc_i (vx_runSW (As := [.ref S0, .int 0]) (rest := []) ⟨hx, hb, hml, hown, hts⟩ (cL_passed_ok l hlt D S0 g k32 0 _ h) (vx_cwSW 2 hts gL_law_L_passed rfl rfl rfl (by decide +kernel) ⟨Nat.le_of_ble_eq_true rfl, Nat.le_of_ble_eq_true rfl⟩) (zpreS hE hs hW) rfl rfl hl.1 rfl (lv_room (Nat.le_of_ble_eq_true rfl)) dL_law_544 ⟨by show _ ≤ 653899; omega, by show _ ≤ 7139484; omega⟩) hW (fun r35 k36 H locs h hW => ?_)
                  replace hW := xW_start hW
                  refine W.widen (k := n + 2 + 2 + 2 + 2 + 2 + 2 + 2 + 2 + 601) (n := 8 * (n + 2 + 2 + 2 + 2 + 2 + 2 + 2 + 2 + 601)) (by omega) (by omega) ?_
                  refine lv_bipush (v := (-3)) hx hb dL_law_547 (by decide) ?_
                  refine lv_icmp_ne (tgt := 588) hx hb dL_law_549 (by decide) (fun c_37 => ?_) (fun c_37 => ?_)
                  · replace h := h.2 c_37
                    refine lv_iconst (v := 0) hx hb dL_law_588 (by decide) ?_
                    exact h.elim
                  · replace h := h.1 c_37
                    refine lv_aload_n hx hb dL_law_552 rfl (lv_at hl 1 rfl) ?_
                    refine lv_bipush (v := 101) hx hb dL_law_553 (by decide) ?_
                    obtain ⟨hb_38, h⟩ := h
                    refine zc_i (vx_runSW (As := [.ref S0, .int 101]) (rest := []) ⟨hx, hb, hml, hown, hts⟩ (cL_passed_ok l hlt D S0 g k36 101 _ h) (vx_cwSW 2 hts gL_law_L_passed rfl rfl rfl (by decide +kernel) ⟨Nat.le_of_ble_eq_true rfl, Nat.le_of_ble_eq_true rfl⟩) (zpreS hE hs hW) rfl rfl hl.1 rfl (lv_room (Nat.le_of_ble_eq_true rfl)) dL_law_555 ⟨by show _ ≤ 653899; omega, by show _ ≤ 7139484; omega⟩) hW (fun r39 k40 H locs h hW => ?_)
                    replace hW := xW_start hW
                    refine W.widen (k := n + 2 + 2 + 2 + 2 + 2 + 2 + 2 + 2 + 601 + 601) (n := 8 * (n + 2 + 2 + 2 + 2 + 2 + 2 + 2 + 2 + 601 + 601)) (by omega) (by omega) ?_
                    refine lv_bipush (v := (-3)) hx hb dL_law_558 (by decide) ?_
                    refine lv_icmp_ne (tgt := 588) hx hb dL_law_560 (by decide) (fun c_41 => ?_) (fun c_41 => ?_)
                    · replace h := h.2 c_41
                      refine lv_iconst (v := 0) hx hb dL_law_588 (by decide) ?_
                      exact h.elim
                    · replace h := h.1 c_41
                      refine lv_aload_n hx hb dL_law_563 rfl (lv_at hl 1 rfl) ?_
                      refine lv_bipush (v := 6) hx hb dL_law_564 (by decide) ?_
                      refine lv_iconst (v := 0) hx hb dL_law_566 (by decide) ?_
                      obtain ⟨hb_42, h⟩ := h
                      refine zc_i (vx_runSW (As := [.ref S0, .int 6, .int 0]) (rest := []) ⟨hx, hb, hml, hown, hts⟩ (cL_owed_ok l hlt D S0 g k40 6 0 _ h) (vx_cwSW 3 hts gL_law_L_owed rfl rfl rfl (by decide +kernel) ⟨Nat.le_of_ble_eq_true rfl, Nat.le_of_ble_eq_true rfl⟩) (zpreS hE hs hW) rfl rfl hl.1 rfl (lv_room (Nat.le_of_ble_eq_true rfl)) dL_law_567 ⟨by show _ ≤ 653899; omega, by show _ ≤ 7139484; omega⟩) hW (fun r43 k44 H locs h hW => ?_)
                      replace hW := xW_start hW
                      refine W.widen (k := n + 2 + 2 + 2 + 2 + 2 + 2 + 2 + 2 + 601 + 601 + 1) (n := 8 * (n + 2 + 2 + 2 + 2 + 2 + 2 + 2 + 2 + 601 + 601 + 1)) (by omega) (by omega) ?_
                      refine lv_bipush (v := (-99)) hx hb dL_law_570 (by decide) ?_
                      refine lv_icmp_ne (tgt := 588) hx hb dL_law_572 (by decide) (fun c_45 => ?_) (fun c_45 => ?_)
                      · replace h := h.2 c_45
                        refine lv_iconst (v := 0) hx hb dL_law_588 (by decide) ?_
                        exact h.elim
                      · replace h := h.1 c_45
                        refine lv_aload_n hx hb dL_law_575 rfl (lv_at hl 1 rfl) ?_
                        refine lv_iconst (v := 0) hx hb dL_law_576 (by decide) ?_
                        refine lv_iconst (v := 0) hx hb dL_law_577 (by decide) ?_
                        obtain ⟨hb_46, h⟩ := h
                        refine zc_i (vx_runSW (As := [.ref S0, .int 0, .int 0]) (rest := []) ⟨hx, hb, hml, hown, hts⟩ (cL_owed_ok l hlt D S0 g k44 0 0 _ h) (vx_cwSW 3 hts gL_law_L_owed rfl rfl rfl (by decide +kernel) ⟨Nat.le_of_ble_eq_true rfl, Nat.le_of_ble_eq_true rfl⟩) (zpreS hE hs hW) rfl rfl hl.1 rfl (lv_room (Nat.le_of_ble_eq_true rfl)) dL_law_578 ⟨by show _ ≤ 653899; omega, by show _ ≤ 7139484; omega⟩) hW (fun r47 k48 H locs h hW => ?_)
                        replace hW := xW_start hW
                        refine W.widen (k := n + 2 + 2 + 2 + 2 + 2 + 2 + 2 + 2 + 601 + 601 + 1 + 1) (n := 8 * (n + 2 + 2 + 2 + 2 + 2 + 2 + 2 + 2 + 601 + 601 + 1 + 1)) (by omega) (by omega) ?_
                        refine lv_if_ne (tgt := 588) hx hb dL_law_581 (by decide) (fun c_49 => ?_) (fun c_49 => ?_)
                        · replace h := h.2 c_49
                          refine lv_iconst (v := 0) hx hb dL_law_588 (by decide) ?_
                          exact h.elim
                        · replace h := h.1 c_49
                          refine lv_iconst (v := 1) hx hb dL_law_584 (by decide) ?_
                          refine lv_goto (tgt := 589) hx hb dL_law_585 (by decide) ?_
                          refine va_forget (fun q hq => by obtain ⟨f9, -, -, hS9, -⟩ := hW; rw [← hS0]; exact hS9.2.2 q hq) ?_
                          refine W.widen (k := 653899) (n := 7139484) (by omega) (by omega) ?_
                          exact lw_ret hx hb hr hlocks dL_law_589
def wL_law_438 (S0 : Nat) (L : Nat) (xs : Nat → Int32) (K : Int32 → (Nat → Int32) → (Nat → Int32) → Nat → kS → Prop) (x4 : Int32) (f2_ : (Nat → Int32)) (f3_ : (Nat → Int32)) (n : Nat) (k : kS) : Prop := (n ≤ 100000 ∧ (n + 320 ≤ 100000 ∧ (wL_holds S0 k f2_ f3_ (fun r84 k85 => ((r84 = 0 → False) ∧ (¬ r84 = 0 → (K (x4 + 1) f2_ f3_ (n + 320) k85)))))))
set_option maxHeartbeats 40000000 in
set_option maxRecDepth 100000 in
theorem tL_law_438 (l : Launch) (hlt : l.stackTraces = false) (D : zD) (S0 : Nat) (ah aq : Nat) (hne : ah ≠ aq) {p : Program} {e : Env} {s : State} {m : MethodId} {below : List Frame} {meth : Method} {c : Code} {b L : Nat} {xs : Nat → Int32} (hx : p.tables.exec = Jvm.exec) (hb : c.code = code) (hr : meth.sig.returnType = ret) (hml : c.maxLocals = 12) (hown : s.vm.findClass RL = some m.cls) (hts : ∀ w ∈ wsL_law, w.before #[Value.ref b] s = true) (hX : va_X b L xs s s.heap) (hbl : b < s.heap.size) (hbS : b < S0) (hlocks : meth.locks = false) (hS0 : S0 = s.heap.size) (hE : zE D S0 s) (K : Int32 → (Nat → Int32) → (Nat → Int32) → Nat → kS → Prop) (hK : ∀ (x4 : Int32) (f2_ : Nat → Int32) (f3_ : Nat → Int32) (n : Nat) (k : kS) (g : zF) (H : Heap) (locs : List Loc) (ls : Array Slot), K x4 f2_ f3_ n k → gA D S0 g ah 41 f2_ → gA D S0 g aq 41 f3_ → zW D S0 (xR D S0 g k k) s.heap H locs → lv_has ls 12 [(0, .ref b), (1, .ref S0), (2, .ref ah), (3, .ref aq), (4, .int x4)] → W p l e room_1 s m #[Value.ref b] below meth c H locs n (8 * n) (lw_Z below #[Value.ref b] s) (F0 m 21 ls [])) : ∀ (x4 : Int32) (f2_ : Nat → Int32) (f3_ : Nat → Int32) (n : Nat) (k : kS) (g : zF) (H : Heap) (locs : List Loc) (ls : Array Slot), wL_law_438 S0 L xs K x4 f2_ f3_ n k → gA D S0 g ah 41 f2_ → gA D S0 g aq 41 f3_ → zW D S0 (xR D S0 g k k) s.heap H locs → lv_has ls 12 [(0, .ref b), (1, .ref S0), (2, .ref ah), (3, .ref aq), (4, .int x4)] → W p l e room_1 s m #[Value.ref b] below meth c H locs n (8 * n) (lw_Z below #[Value.ref b] s) (F0 m 438 ls []) := by
  have hs : S0 ≤ s.heap.size := Nat.le_of_eq hS0
  intro x4 f2_ f3_ n k g H locs ls h hah haq hW hl
  unfold wL_law_438 at h
  obtain ⟨hb_n, h⟩ := h
  refine lv_aload_n hx hb dL_law_438 rfl (lv_at hl 1 rfl) ?_
  refine lv_aload_n hx hb dL_law_439 rfl (lv_at hl 2 rfl) ?_
  refine lv_aload_n hx hb dL_law_440 rfl (lv_at hl 3 rfl) ?_
  obtain ⟨hb_83, h⟩ := h
  refine zc_i (va_runS (As := [.ref S0, .ref ah, .ref aq]) (rest := []) ⟨hx, hb, hml, hown, hts⟩ (cL_holds_ok l hlt D S0 g k ah aq f2_ f3_ hah haq _ h) (va_cwS 3 hts gL_law_L_holds rfl rfl rfl (by decide +kernel) ⟨Nat.le_of_ble_eq_true rfl, Nat.le_of_ble_eq_true rfl⟩) (zpreS hE hs hW) rfl rfl hl.1 rfl (lv_room (Nat.le_of_ble_eq_true rfl)) dL_law_441 ⟨by show _ ≤ 653899; omega, by show _ ≤ 7139484; omega⟩) hW (fun r84 k85 H locs h hW => ?_)
  replace h := h.1
  replace hW := xW_start hW
  refine W.widen (k := n + 320) (n := 8 * (n + 320)) (by omega) (by omega) ?_
  refine lv_if_ne (tgt := 449) hx hb dL_law_444 (by decide) (fun c_86 => ?_) (fun c_86 => ?_)
  · replace h := h.2 c_86
    refine lv_iinc (v := (x4 + 1)) (lv' := [(4, .int (x4 + 1)), (0, .ref b), (1, .ref S0), (2, .ref ah), (3, .ref aq)]) hx hb dL_law_449 hl (k := 4) rfl rfl (by decide) rfl (fun ls hl => ?_)
    refine lv_goto (tgt := 21) hx hb dL_law_452 (by decide) ?_
    exact hK (x4 + 1) f2_ f3_ (n + 320) k85 g _ _ _ h hah haq hW (lv_sub hl [1, 2, 3, 4, 0] rfl)
  · replace h := h.1 c_86
    refine lv_iconst (v := 0) hx hb dL_law_447 (by decide) ?_
    exact h.elim
def wL_law_144 (S0 : Nat) (L : Nat) (xs : Nat → Int32) (K : Int32 → (Nat → Int32) → (Nat → Int32) → Nat → kS → Prop) (x4 : Int32) (x5 : Int32) (x6 : Int32) (x7 : Int32) (x9 : Int32) (f2_ : (Nat → Int32)) (f3_ : (Nat → Int32)) (f8_ : (Nat → Int32)) (n : Nat) (k : kS) : Prop := (n ≤ 100000 ∧ (n + 601 ≤ 100000 ∧ (wL_act S0 k x5 x6 x7 (fun r76 k77 => (((0 : Int32) ≤ r76 → ((x7 = 0 → (vp_in 40 41 ∧ ((r76 = (f2_ ((40 : Int32).toNatClampNeg)) → (n + 601 + 1 ≤ 100000 ∧ (wX5_listed S0 k77 r76 (fun r165 k166 => ((r165 = (-1) → (n + 601 + 1 + 1 ≤ 100000 ∧ (wX5_isFree S0 k166 r76 (fun r169 k170 => ((r169 = 0 → False) ∧ (¬ r169 = 0 → (wL_low S0 k170 (x6 >>> (4 &&& 31)) 6 (fun r172 k173 => (vp_in r76 41 ∧ ∀ f175 : Nat → Int32, f175 = upd f2_ (r76.toNatClampNeg) r172 → (wL_low S0 k173 (x6 >>> (9 &&& 31)) 2 (fun r177 k178 => (vp_in (20 + r76) 41 ∧ ∀ f180 : Nat → Int32, f180 = upd f175 ((20 + r76).toNatClampNeg) r177 → (vp_in 40 41 ∧ (vp_in 40 41 ∧ ∀ f184 : Nat → Int32, f184 = upd f180 ((40 : Int32).toNatClampNeg) ((f180 ((40 : Int32).toNatClampNeg)) + 1) → (wL_law_438 S0 L xs K x4 f184 f3_ (n + 601 + 1 + 1) k178)))))))))))) (fun _ _ => False)))) ∧ (¬ r165 = (-1) → False))) (fun _ _ => False)))) ∧ (¬ r76 = (f2_ ((40 : Int32).toNatClampNeg)) → False)))) ∧ (¬ x7 = 0 → (((3 : Int32) ≤ x7 → ((x7 = 9 → (n + 601 + 200 ≤ 100000 ∧ (wL_tell S0 k77 f2_ f3_ (fun f109 k105 => (((15 : Int32) < r76 → False) ∧ (¬ (15 : Int32) < r76 → (vp_in 5 64 ∧ (((f109 ((5 : Int32).toNatClampNeg)) = 0 → (vp_in 6 64 ∧ (((f109 ((6 : Int32).toNatClampNeg)) = 0 → (vp_in 7 64 ∧ (((f109 ((7 : Int32).toNatClampNeg)) = 0 → (wX5_settle S0 k105 (fun r119 k120 => ((r119 = 0 → (wL_law_438 S0 L xs K x4 f2_ f3_ (n + 601 + 200) k120)) ∧ (¬ r119 = 0 → False))))) ∧ (¬ (f109 ((7 : Int32).toNatClampNeg)) = 0 → False)))) ∧ (¬ (f109 ((6 : Int32).toNatClampNeg)) = 0 → False)))) ∧ (¬ (f109 ((5 : Int32).toNatClampNeg)) = 0 → False))))))))) ∧ (¬ x7 = 9 → ((x7 ≤ 9 → (wL_law_438 S0 L xs K x4 f2_ f3_ (n + 601) k77)) ∧ (¬ x7 ≤ 9 → (n + 601 + 200 ≤ 100000 ∧ (wL_tell S0 k77 f2_ f3_ (fun f93 k89 => (vp_in 0 64 ∧ (vp_in 0 64 ∧ (((f93 ((0 : Int32).toNatClampNeg)) ≤ (f8_ ((0 : Int32).toNatClampNeg)) → False) ∧ (¬ (f93 ((0 : Int32).toNatClampNeg)) ≤ (f8_ ((0 : Int32).toNatClampNeg)) → (vp_in 40 41 ∧ (wL_goesOn S0 k89 f8_ f93 (f3_ ((40 : Int32).toNatClampNeg)) (fun r100 k101 => ((r100 = 0 → False) ∧ (¬ r100 = 0 → (wL_law_438 S0 L xs K x4 f2_ f3_ (n + 601 + 200) k101)))))))))))))))))) ∧ (¬ (3 : Int32) ≤ x7 → (vp_in 40 41 ∧ ((r76 = (f3_ ((40 : Int32).toNatClampNeg)) → (n + 601 + 1 ≤ 100000 ∧ (wX5_copyOf S0 k77 r76 (fun r125 k126 => ((r125 = x9 → (n + 601 + 1 + 1 ≤ 100000 ∧ (wX5_state S0 k126 r76 (fun r129 k130 => (((0 : Int32) ≤ x9 → ((r129 = 0 → (wL_low S0 k130 (x6 >>> (4 &&& 31)) 6 (fun r133 k134 => (vp_in r76 41 ∧ ∀ f136 : Nat → Int32, f136 = upd f3_ (r76.toNatClampNeg) r133 → (wL_low S0 k134 (x6 >>> (9 &&& 31)) 2 (fun r138 k139 => (vp_in (20 + r76) 41 ∧ ∀ f141 : Nat → Int32, f141 = upd f136 ((20 + r76).toNatClampNeg) r138 → (vp_in 40 41 ∧ (vp_in 40 41 ∧ ∀ f145 : Nat → Int32, f145 = upd f141 ((40 : Int32).toNatClampNeg) ((f141 ((40 : Int32).toNatClampNeg)) + 1) → (wL_law_438 S0 L xs K x4 f2_ f145 (n + 601 + 1 + 1) k139)))))))))) ∧ (¬ r129 = 0 → False))) ∧ (¬ (0 : Int32) ≤ x9 → ((r129 = 5 → (wL_low S0 k130 (x6 >>> (4 &&& 31)) 6 (fun r148 k149 => (vp_in r76 41 ∧ ∀ f151 : Nat → Int32, f151 = upd f3_ (r76.toNatClampNeg) r148 → (wL_low S0 k149 (x6 >>> (9 &&& 31)) 2 (fun r153 k154 => (vp_in (20 + r76) 41 ∧ ∀ f156 : Nat → Int32, f156 = upd f151 ((20 + r76).toNatClampNeg) r153 → (vp_in 40 41 ∧ (vp_in 40 41 ∧ ∀ f160 : Nat → Int32, f160 = upd f156 ((40 : Int32).toNatClampNeg) ((f156 ((40 : Int32).toNatClampNeg)) + 1) → (wL_law_438 S0 L xs K x4 f2_ f160 (n + 601 + 1 + 1) k154)))))))))) ∧ (¬ r129 = 5 → False))))) (fun _ _ => False)))) ∧ (¬ r125 = x9 → False))) (fun _ _ => False)))) ∧ (¬ r76 = (f3_ ((40 : Int32).toNatClampNeg)) → False)))))))) ∧ (¬ (0 : Int32) ≤ r76 → (n + 601 + 200 ≤ 100000 ∧ (wL_tell S0 k77 f2_ f3_ (fun f192 k188 => (wL_same S0 k188 f8_ f192 (fun r195 k196 => ((r195 = 0 → False) ∧ (¬ r195 = 0 → (wL_law_438 S0 L xs K x4 f2_ f3_ (n + 601 + 200) k196))))))))))))))
set_option maxHeartbeats 40000000 in
set_option maxRecDepth 100000 in
theorem tL_law_144 (l : Launch) (hlt : l.stackTraces = false) (D : zD) (S0 : Nat) (ah aq : Nat) (hne : ah ≠ aq) {p : Program} {e : Env} {s : State} {m : MethodId} {below : List Frame} {meth : Method} {c : Code} {b L : Nat} {xs : Nat → Int32} (hx : p.tables.exec = Jvm.exec) (hb : c.code = code) (hr : meth.sig.returnType = ret) (hml : c.maxLocals = 12) (hown : s.vm.findClass RL = some m.cls) (hts : ∀ w ∈ wsL_law, w.before #[Value.ref b] s = true) (hX : va_X b L xs s s.heap) (hbl : b < s.heap.size) (hbS : b < S0) (hlocks : meth.locks = false) (hS0 : S0 = s.heap.size) (hE : zE D S0 s) (K : Int32 → (Nat → Int32) → (Nat → Int32) → Nat → kS → Prop) (hK : ∀ (x4 : Int32) (f2_ : Nat → Int32) (f3_ : Nat → Int32) (n : Nat) (k : kS) (g : zF) (H : Heap) (locs : List Loc) (ls : Array Slot), K x4 f2_ f3_ n k → gA D S0 g ah 41 f2_ → gA D S0 g aq 41 f3_ → zW D S0 (xR D S0 g k k) s.heap H locs → lv_has ls 12 [(0, .ref b), (1, .ref S0), (2, .ref ah), (3, .ref aq), (4, .int x4)] → W p l e room_1 s m #[Value.ref b] below meth c H locs n (8 * n) (lw_Z below #[Value.ref b] s) (F0 m 21 ls [])) : ∀ (x4 : Int32) (x5 : Int32) (x6 : Int32) (x7 : Int32) (x9 : Int32) (f2_ : Nat → Int32) (f3_ : Nat → Int32) (f8_ : Nat → Int32) (n : Nat) (k : kS) (a8 : Nat) (g : zF) (H : Heap) (locs : List Loc) (ls : Array Slot), wL_law_144 S0 L xs K x4 x5 x6 x7 x9 f2_ f3_ f8_ n k → gA D S0 g ah 41 f2_ → gA D S0 g aq 41 f3_ → gA D S0 g a8 64 f8_ → zW D S0 (xR D S0 g k k) s.heap H locs → lv_has ls 12 [(0, .ref b), (1, .ref S0), (2, .ref ah), (3, .ref aq), (4, .int x4), (5, .int x5), (6, .int x6), (7, .int x7), (8, .ref a8), (9, .int x9)] → W p l e room_1 s m #[Value.ref b] below meth c H locs n (8 * n) (lw_Z below #[Value.ref b] s) (F0 m 144 ls []) := by
  have hs : S0 ≤ s.heap.size := Nat.le_of_eq hS0
  intro x4 x5 x6 x7 x9 f2_ f3_ f8_ n k a8 g H locs ls h hah haq ha8 hW hl
  unfold wL_law_144 at h
  obtain ⟨hb_n, h⟩ := h
  refine lv_aload_n hx hb dL_law_144 rfl (lv_at hl 1 rfl) ?_
  refine lv_iload hx hb dL_law_145 (lv_at hl 5 rfl) ?_
  refine lv_iload hx hb dL_law_147 (lv_at hl 6 rfl) ?_
  refine lv_iload hx hb dL_law_149 (lv_at hl 7 rfl) ?_
  obtain ⟨hb_75, h⟩ := h
  refine zc_i (va_runS (As := [.ref S0, .int x5, .int x6, .int x7]) (rest := []) ⟨hx, hb, hml, hown, hts⟩ (cL_act_ok l hlt D S0 g k x5 x6 x7 _ h) (va_cwS 4 hts gL_law_L_act rfl rfl rfl (by decide +kernel) ⟨Nat.le_of_ble_eq_true rfl, Nat.le_of_ble_eq_true rfl⟩) (zpreS hE hs hW) rfl rfl hl.1 rfl (lv_room (Nat.le_of_ble_eq_true rfl)) dL_law_151 ⟨by show _ ≤ 653899; omega, by show _ ≤ 7139484; omega⟩) hW (fun r76 k77 H locs h hW => ?_)
  replace hW := xW_start hW
  refine W.widen (k := n + 601) (n := 8 * (n + 601)) (by omega) (by omega) ?_
  refine lv_istore (lv' := [(10, .int r76), (0, .ref b), (1, .ref S0), (2, .ref ah), (3, .ref aq), (4, .int x4), (5, .int x5), (6, .int x6), (7, .int x7), (8, .ref a8), (9, .int x9)]) hx hb dL_law_154 hl (by decide) rfl (fun ls hl => ?_)
  refine lv_iload hx hb dL_law_156 (lv_at hl 0 rfl) ?_
  refine lv_if_ge (tgt := 177) hx hb dL_law_158 (by decide) (fun c_78 => ?_) (fun c_78 => ?_)
  · replace h := h.1 c_78
    refine lv_iload hx hb dL_law_177 (lv_at hl 8 rfl) ?_
    refine lv_if_ne (tgt := 252) hx hb dL_law_179 (by decide) (fun c_79 => ?_) (fun c_79 => ?_)
    · replace h := h.2 c_79
      refine lv_iload hx hb dL_law_252 (lv_at hl 8 rfl) ?_
      refine lv_iconst (v := 3) hx hb dL_law_254 (by decide) ?_
      refine lv_icmp_ge (tgt := 339) hx hb dL_law_255 (by decide) (fun c_80 => ?_) (fun c_80 => ?_)
      · replace h := h.1 c_80
        refine lv_iload hx hb dL_law_339 (lv_at hl 8 rfl) ?_
        refine lv_bipush (v := 9) hx hb dL_law_341 (by decide) ?_
        refine lv_icmp_ne (tgt := 396) hx hb dL_law_343 (by decide) (fun c_81 => ?_) (fun c_81 => ?_)
        · replace h := h.2 c_81
          refine lv_iload hx hb dL_law_396 (lv_at hl 8 rfl) ?_
          refine lv_bipush (v := 9) hx hb dL_law_398 (by decide) ?_
          refine lv_icmp_le (tgt := 438) hx hb dL_law_400 (by decide) (fun c_82 => ?_) (fun c_82 => ?_)
          · replace h := h.1 c_82
            exact tL_law_438 l hlt D S0 ah aq hne hx hb hr hml hown hts hX hbl hbS hlocks hS0 hE K hK x4 f2_ f3_ (n + 601) k77 g _ _ _ h hah haq hW (lv_sub hl [1, 2, 3, 4, 5] rfl)
          · replace h := h.2 c_82
            refine lv_aload_n hx hb dL_law_403 rfl (lv_at hl 2 rfl) ?_
            refine lv_aload_n hx hb dL_law_404 rfl (lv_at hl 3 rfl) ?_
            refine lv_aload_n hx hb dL_law_405 rfl (lv_at hl 4 rfl) ?_
            obtain ⟨hb_87, h⟩ := h
            refine zc_q (va_runS (As := [.ref S0, .ref ah, .ref aq]) (rest := []) ⟨hx, hb, hml, hown, hts⟩ (cL_tell_ok l hlt D S0 g k77 ah aq f2_ f3_ hah haq _ h) (va_cwS 3 hts gL_law_L_tell rfl rfl rfl (by decide +kernel) ⟨Nat.le_of_ble_eq_true rfl, Nat.le_of_ble_eq_true rfl⟩) (zpreS hE hs hW) rfl rfl hl.1 rfl (lv_room (Nat.le_of_ble_eq_true rfl)) dL_law_406 ⟨by show _ ≤ 653899; omega, by show _ ≤ 7139484; omega⟩) hW (fun r88 u90 H locs h hW => ?_)
            obtain ⟨k89, q91, f93⟩ := u90
            obtain ⟨h, r88e, hg_94, h9_95⟩ := h
            replace r88e : r88 = some q91 := r88e
            subst r88e
            replace hg_94 : g q91 = none := hg_94
            replace hW : zW D S0 (xR D S0 (gU D g q91 64 f93) k89 k89) s.heap H locs := hW
            replace h9_95 : S0 + 9 ≤ q91 := h9_95
            obtain ⟨g92, eg92⟩ : ∃ y, y = gU D g q91 64 f93 := ⟨_, rfl⟩
            rw [← eg92] at hW
            replace hah : gA D S0 g92 ah 41 f2_ := by rw [eg92]; exact gU_ne hah (gA_ne hah hg_94)
            replace haq : gA D S0 g92 aq 41 f3_ := by rw [eg92]; exact gU_ne haq (gA_ne haq hg_94)
            replace ha8 : gA D S0 g92 a8 64 f8_ := by rw [eg92]; exact gU_ne ha8 (gA_ne ha8 hg_94)
            have hq91 : gA D S0 g92 q91 64 f93 := by rw [eg92]; exact gU_self h9_95
            refine W.widen (k := n + 601 + 200) (n := 8 * (n + 601 + 200)) (by omega) (by omega) ?_
            refine lv_astore (lv' := [(11, .ref q91), (10, .int r76), (0, .ref b), (1, .ref S0), (2, .ref ah), (3, .ref aq), (4, .int x4), (5, .int x5), (6, .int x6), (7, .int x7), (8, .ref a8), (9, .int x9)]) hx hb dL_law_409 hl (by decide) rfl (fun ls hl => ?_)
            refine lv_aload hx hb dL_law_411 (lv_at hl 0 rfl) ?_
            refine lv_iconst (v := 0) hx hb dL_law_413 (by decide) ?_
            obtain ⟨hb_96, h⟩ := h
            refine zw_iald hx hb hE.1 hW (gC hq91) hb_96 dL_law_414 ?_
            refine lv_aload hx hb dL_law_415 (lv_at hl 10 rfl) ?_
            refine lv_iconst (v := 0) hx hb dL_law_417 (by decide) ?_
            obtain ⟨hb_97, h⟩ := h
            refine zw_iald hx hb hE.1 hW (gC ha8) hb_97 dL_law_418 ?_
            refine lv_icmp_le (tgt := 436) hx hb dL_law_419 (by decide) (fun c_98 => ?_) (fun c_98 => ?_)
            · replace h := h.1 c_98
              refine lv_iconst (v := 0) hx hb dL_law_436 (by decide) ?_
              exact h.elim
            · replace h := h.2 c_98
              refine lv_aload hx hb dL_law_422 (lv_at hl 10 rfl) ?_
              refine lv_aload hx hb dL_law_424 (lv_at hl 0 rfl) ?_
              refine lv_aload_n hx hb dL_law_426 rfl (lv_at hl 5 rfl) ?_
              refine lv_bipush (v := 40) hx hb dL_law_427 (by decide) ?_
              obtain ⟨hb_99, h⟩ := h
              refine zw_iald hx hb hE.1 hW (gC haq) hb_99 dL_law_429 ?_
              refine zc_i (va_runS (As := [.ref a8, .ref q91, .int (f3_ ((40 : Int32).toNatClampNeg))]) (rest := []) ⟨hx, hb, hml, hown, hts⟩ (cL_goesOn_ok l hlt D S0 g92 k89 a8 q91 f8_ f93 (f3_ ((40 : Int32).toNatClampNeg)) ha8 hq91 _ h) (va_cwS 3 hts gL_law_L_goesOn rfl rfl rfl (by decide +kernel) ⟨Nat.le_of_ble_eq_true rfl, Nat.le_of_ble_eq_true rfl⟩) (zpreS hE hs hW) rfl rfl hl.1 rfl (lv_room (Nat.le_of_ble_eq_true rfl)) dL_law_430 ⟨by show _ ≤ 653899; omega, by show _ ≤ 7139484; omega⟩) hW (fun r100 k101 H locs h hW => ?_)
              replace h := h.1
              replace hW := xW_start hW
              refine W.widen (k := n + 601 + 200) (n := 8 * (n + 601 + 200)) (by omega) (by omega) ?_
              refine lv_if_ne (tgt := 438) hx hb dL_law_433 (by decide) (fun c_102 => ?_) (fun c_102 => ?_)
              · replace h := h.2 c_102
                exact tL_law_438 l hlt D S0 ah aq hne hx hb hr hml hown hts hX hbl hbS hlocks hS0 hE K hK x4 f2_ f3_ (n + 601 + 200) k101 g92 _ _ _ h hah haq hW (lv_sub hl [2, 3, 4, 5, 6] rfl)
              · replace h := h.1 c_102
                refine lv_iconst (v := 0) hx hb dL_law_436 (by decide) ?_
                exact h.elim
        · replace h := h.1 c_81
          refine lv_aload_n hx hb dL_law_346 rfl (lv_at hl 2 rfl) ?_
          refine lv_aload_n hx hb dL_law_347 rfl (lv_at hl 3 rfl) ?_
          refine lv_aload_n hx hb dL_law_348 rfl (lv_at hl 4 rfl) ?_
          obtain ⟨hb_103, h⟩ := h
          refine zc_q (va_runS (As := [.ref S0, .ref ah, .ref aq]) (rest := []) ⟨hx, hb, hml, hown, hts⟩ (cL_tell_ok l hlt D S0 g k77 ah aq f2_ f3_ hah haq _ h) (va_cwS 3 hts gL_law_L_tell rfl rfl rfl (by decide +kernel) ⟨Nat.le_of_ble_eq_true rfl, Nat.le_of_ble_eq_true rfl⟩) (zpreS hE hs hW) rfl rfl hl.1 rfl (lv_room (Nat.le_of_ble_eq_true rfl)) dL_law_349 ⟨by show _ ≤ 653899; omega, by show _ ≤ 7139484; omega⟩) hW (fun r104 u106 H locs h hW => ?_)
          obtain ⟨k105, q107, f109⟩ := u106
          obtain ⟨h, r104e, hg_110, h9_111⟩ := h
          replace r104e : r104 = some q107 := r104e
          subst r104e
          replace hg_110 : g q107 = none := hg_110
          replace hW : zW D S0 (xR D S0 (gU D g q107 64 f109) k105 k105) s.heap H locs := hW
          replace h9_111 : S0 + 9 ≤ q107 := h9_111
          obtain ⟨g108, eg108⟩ : ∃ y, y = gU D g q107 64 f109 := ⟨_, rfl⟩
          rw [← eg108] at hW
          replace hah : gA D S0 g108 ah 41 f2_ := by rw [eg108]; exact gU_ne hah (gA_ne hah hg_110)
          replace haq : gA D S0 g108 aq 41 f3_ := by rw [eg108]; exact gU_ne haq (gA_ne haq hg_110)
          replace ha8 : gA D S0 g108 a8 64 f8_ := by rw [eg108]; exact gU_ne ha8 (gA_ne ha8 hg_110)
          have hq107 : gA D S0 g108 q107 64 f109 := by rw [eg108]; exact gU_self h9_111
          refine W.widen (k := n + 601 + 200) (n := 8 * (n + 601 + 200)) (by omega) (by omega) ?_
          refine lv_astore (lv' := [(11, .ref q107), (10, .int r76), (0, .ref b), (1, .ref S0), (2, .ref ah), (3, .ref aq), (4, .int x4), (5, .int x5), (6, .int x6), (7, .int x7), (8, .ref a8), (9, .int x9)]) hx hb dL_law_352 hl (by decide) rfl (fun ls hl => ?_)
          refine lv_iload hx hb dL_law_354 (lv_at hl 1 rfl) ?_
          refine lv_bipush (v := 15) hx hb dL_law_356 (by decide) ?_
          refine lv_icmp_gt (tgt := 391) hx hb dL_law_358 (by decide) (fun c_112 => ?_) (fun c_112 => ?_)
          · replace h := h.1 c_112
            refine lv_iconst (v := 0) hx hb dL_law_391 (by decide) ?_
            exact h.elim
          · replace h := h.2 c_112
            refine lv_aload hx hb dL_law_361 (lv_at hl 0 rfl) ?_
            refine lv_iconst (v := 5) hx hb dL_law_363 (by decide) ?_
            obtain ⟨hb_113, h⟩ := h
            refine zw_iald hx hb hE.1 hW (gC hq107) hb_113 dL_law_364 ?_
            refine lv_if_ne (tgt := 391) hx hb dL_law_365 (by decide) (fun c_114 => ?_) (fun c_114 => ?_)
            · replace h := h.2 c_114
              refine lv_iconst (v := 0) hx hb dL_law_391 (by decide) ?_
              exact h.elim
            · replace h := h.1 c_114
              refine lv_aload hx hb dL_law_368 (lv_at hl 0 rfl) ?_
              refine lv_bipush (v := 6) hx hb dL_law_370 (by decide) ?_
              obtain ⟨hb_115, h⟩ := h
              refine zw_iald hx hb hE.1 hW (gC hq107) hb_115 dL_law_372 ?_
              refine lv_if_ne (tgt := 391) hx hb dL_law_373 (by decide) (fun c_116 => ?_) (fun c_116 => ?_)
              · replace h := h.2 c_116
                refine lv_iconst (v := 0) hx hb dL_law_391 (by decide) ?_
                exact h.elim
              · replace h := h.1 c_116
                refine lv_aload hx hb dL_law_376 (lv_at hl 0 rfl) ?_
                refine lv_bipush (v := 7) hx hb dL_law_378 (by decide) ?_
                obtain ⟨hb_117, h⟩ := h
                refine zw_iald hx hb hE.1 hW (gC hq107) hb_117 dL_law_380 ?_
                refine lv_if_ne (tgt := 391) hx hb dL_law_381 (by decide) (fun c_118 => ?_) (fun c_118 => ?_)
                · replace h := h.2 c_118
                  refine lv_iconst (v := 0) hx hb dL_law_391 (by decide) ?_
                  exact h.elim
                · replace h := h.1 c_118
                  refine lv_aload_n hx hb dL_law_384 rfl (lv_at hl 3 rfl) ?_
                  refine zc_i (va_runV (As := []) (rest := []) ⟨hx, hb, hml, hown, hts⟩ (cX5_settle_ok l hlt D S0 g108 k105 _ h) (cwV 0 hts gL_law_X5_settle rfl rfl rfl (by decide +kernel) ⟨Nat.le_of_ble_eq_true rfl, Nat.le_of_ble_eq_true rfl⟩) (zpreV (q := (RX5, TX5, 7)) hE hs hW xC_U rfl) rfl rfl hl.1 rfl (lv_room (Nat.le_of_ble_eq_true rfl)) dL_law_385 ⟨by show _ ≤ 653899; omega, by show _ ≤ 7139484; omega⟩) hW (fun r119 k120 H locs h hW => ?_)
                  replace hW := xW_start hW
                  refine W.widen (k := n + 601 + 200) (n := 8 * (n + 601 + 200)) (by omega) (by omega) ?_
                  refine lv_if_eq (tgt := 393) hx hb dL_law_388 (by decide) (fun c_121 => ?_) (fun c_121 => ?_)
                  · replace h := h.1 c_121
                    refine lv_goto (tgt := 438) hx hb dL_law_393 (by decide) ?_
                    exact tL_law_438 l hlt D S0 ah aq hne hx hb hr hml hown hts hX hbl hbS hlocks hS0 hE K hK x4 f2_ f3_ (n + 601 + 200) k120 g108 _ _ _ h hah haq hW (lv_sub hl [2, 3, 4, 5, 6] rfl)
                  · replace h := h.2 c_121
                    refine lv_iconst (v := 0) hx hb dL_law_391 (by decide) ?_
                    exact h.elim
      · replace h := h.2 c_80
        refine lv_iload hx hb dL_law_258 (lv_at hl 0 rfl) ?_
        refine lv_aload_n hx hb dL_law_260 rfl (lv_at hl 4 rfl) ?_
        refine lv_bipush (v := 40) hx hb dL_law_261 (by decide) ?_
        obtain ⟨hb_122, h⟩ := h
        refine zw_iald hx hb hE.1 hW (gC haq) hb_122 dL_law_263 ?_
        refine lv_icmp_ne (tgt := 297) hx hb dL_law_264 (by decide) (fun c_123 => ?_) (fun c_123 => ?_)
        · replace h := h.2 c_123
          refine lv_iconst (v := 0) hx hb dL_law_297 (by decide) ?_
          exact h.elim
        · replace h := h.1 c_123
          refine lv_aload_n hx hb dL_law_267 rfl (lv_at hl 2 rfl) ?_
          refine lv_iload hx hb dL_law_268 (lv_at hl 0 rfl) ?_
          obtain ⟨hb_124, h⟩ := h
          refine zxc_i (vx_runV (As := [.int r76]) (rest := []) ⟨hx, hb, hml, hown, hts⟩ (cX5_copyOf_ok l hlt D S0 g k77 r76 _ _ h) (cwV 1 hts gL_law_X5_copyOf rfl rfl rfl (by decide +kernel) ⟨Nat.le_of_ble_eq_true rfl, Nat.le_of_ble_eq_true rfl⟩) (zpreV (q := (RX5, TX5, 7)) hE hs hW xC_U rfl) rfl rfl hl.1 rfl (lv_room (Nat.le_of_ble_eq_true rfl)) dL_law_270 ⟨by show _ ≤ 653899; omega, by show _ ≤ 7139484; omega⟩) hW (fun E ce q9 k126 H locs h hW hcell hv9 hcl9 => h.elim) (fun r125 k126 H locs h hW => ?_)
          replace hW := xW_start hW
          refine W.widen (k := n + 601 + 1) (n := 8 * (n + 601 + 1)) (by omega) (by omega) ?_
          refine lv_iload hx hb dL_law_273 (lv_at hl 10 rfl) ?_
          refine lv_icmp_ne (tgt := 297) hx hb dL_law_275 (by decide) (fun c_127 => ?_) (fun c_127 => ?_)
          · replace h := h.2 c_127
            refine lv_iconst (v := 0) hx hb dL_law_297 (by decide) ?_
            exact h.elim
          · replace h := h.1 c_127
            refine lv_aload_n hx hb dL_law_278 rfl (lv_at hl 2 rfl) ?_
            refine lv_iload hx hb dL_law_279 (lv_at hl 0 rfl) ?_
            obtain ⟨hb_128, h⟩ := h
            refine zxc_i (vx_runV (As := [.int r76]) (rest := []) ⟨hx, hb, hml, hown, hts⟩ (cX5_state_ok l hlt D S0 g k126 r76 _ _ h) (cwV 1 hts gL_law_X5_state rfl rfl rfl (by decide +kernel) ⟨Nat.le_of_ble_eq_true rfl, Nat.le_of_ble_eq_true rfl⟩) (zpreV (q := (RX5, TX5, 7)) hE hs hW xC_U rfl) rfl rfl hl.1 rfl (lv_room (Nat.le_of_ble_eq_true rfl)) dL_law_281 ⟨by show _ ≤ 653899; omega, by show _ ≤ 7139484; omega⟩) hW (fun E ce q9 k130 H locs h hW hcell hv9 hcl9 => h.elim) (fun r129 k130 H locs h hW => ?_)
            replace hW := xW_start hW
            refine W.widen (k := n + 601 + 1 + 1) (n := 8 * (n + 601 + 1 + 1)) (by omega) (by omega) ?_
            refine lv_iload hx hb dL_law_284 (lv_at hl 10 rfl) ?_
            refine lv_if_ge (tgt := 293) hx hb dL_law_286 (by decide) (fun c_131 => ?_) (fun c_131 => ?_)
            · replace h := h.1 c_131
              refine lv_iconst (v := 0) hx hb dL_law_293 (by decide) ?_
              refine lv_icmp_eq (tgt := 299) hx hb dL_law_294 (by decide) (fun c_132 => ?_) (fun c_132 => ?_)
              · replace h := h.1 c_132
                refine lv_aload_n hx hb dL_law_299 rfl (lv_at hl 4 rfl) ?_
                refine lv_iload hx hb dL_law_300 (lv_at hl 0 rfl) ?_
                refine lv_iload hx hb dL_law_302 (lv_at hl 7 rfl) ?_
                refine lv_iconst (v := 4) hx hb dL_law_304 (by decide) ?_
                refine lv_ishr hx hb dL_law_305 ?_
                refine lv_bipush (v := 6) hx hb dL_law_306 (by decide) ?_
                refine zc_i (va_runS (As := [.int (x6 >>> (4 &&& 31)), .int 6]) (rest := [.int r76, .ref aq]) ⟨hx, hb, hml, hown, hts⟩ (cL_low_ok l hlt D S0 g k130 (x6 >>> (4 &&& 31)) 6 _ h) (va_cwS 2 hts gL_law_L_low rfl rfl rfl (by decide +kernel) ⟨Nat.le_of_ble_eq_true rfl, Nat.le_of_ble_eq_true rfl⟩) (zpreS hE hs hW) rfl rfl hl.1 rfl (lv_room (Nat.le_of_ble_eq_true rfl)) dL_law_308 ⟨by show _ ≤ 653899; omega, by show _ ≤ 7139484; omega⟩) hW (fun r133 k134 H locs h hW => ?_)
                replace hW := xW_start hW
                refine W.widen (k := n + 601 + 1 + 1) (n := 8 * (n + 601 + 1 + 1)) (by omega) (by omega) ?_
                obtain ⟨hb_135, h⟩ := h
                obtain ⟨f136, ef136⟩ : ∃ y, y = upd f3_ (r76.toNatClampNeg) r133 := ⟨_, rfl⟩
                replace h := h f136 ef136
                refine zw_iast hx hb hE.1 hW (gC haq) hb_135 dL_law_311 (gP haq) (fun H locs hW => ?_)
                rw [← ef136] at hW
                obtain ⟨g137, eg137⟩ : ∃ y, y = gU D g aq 41 f136 := ⟨_, rfl⟩
                rw [← eg137] at hW
                replace hah : gA D S0 g137 ah 41 f2_ := by rw [eg137]; exact gU_ne hah (hne)
                replace haq : gA D S0 g137 aq 41 f136 := by rw [eg137]; exact gU_self haq.1
                refine lv_aload_n hx hb dL_law_312 rfl (lv_at hl 4 rfl) ?_
                refine lv_bipush (v := 20) hx hb dL_law_313 (by decide) ?_
                refine lv_iload hx hb dL_law_315 (lv_at hl 0 rfl) ?_
                refine lv_iadd hx hb dL_law_317 ?_
                refine lv_iload hx hb dL_law_318 (lv_at hl 7 rfl) ?_
                refine lv_bipush (v := 9) hx hb dL_law_320 (by decide) ?_
                refine lv_ishr hx hb dL_law_322 ?_
                refine lv_iconst (v := 2) hx hb dL_law_323 (by decide) ?_
                refine zc_i (va_runS (As := [.int (x6 >>> (9 &&& 31)), .int 2]) (rest := [.int (20 + r76), .ref aq]) ⟨hx, hb, hml, hown, hts⟩ (cL_low_ok l hlt D S0 g137 k134 (x6 >>> (9 &&& 31)) 2 _ h) (va_cwS 2 hts gL_law_L_low rfl rfl rfl (by decide +kernel) ⟨Nat.le_of_ble_eq_true rfl, Nat.le_of_ble_eq_true rfl⟩) (zpreS hE hs hW) rfl rfl hl.1 rfl (lv_room (Nat.le_of_ble_eq_true rfl)) dL_law_324 ⟨by show _ ≤ 653899; omega, by show _ ≤ 7139484; omega⟩) hW (fun r138 k139 H locs h hW => ?_)
                replace hW := xW_start hW
                refine W.widen (k := n + 601 + 1 + 1) (n := 8 * (n + 601 + 1 + 1)) (by omega) (by omega) ?_
                obtain ⟨hb_140, h⟩ := h
                obtain ⟨f141, ef141⟩ : ∃ y, y = upd f136 ((20 + r76).toNatClampNeg) r138 := ⟨_, rfl⟩
                replace h := h f141 ef141
                refine zw_iast hx hb hE.1 hW (gC haq) hb_140 dL_law_327 (gP haq) (fun H locs hW => ?_)
                rw [← ef141] at hW
                obtain ⟨g142, eg142⟩ : ∃ y, y = gU D g137 aq 41 f141 := ⟨_, rfl⟩
                rw [← eg142] at hW
                replace hah : gA D S0 g142 ah 41 f2_ := by rw [eg142]; exact gU_ne hah (hne)
                replace haq : gA D S0 g142 aq 41 f141 := by rw [eg142]; exact gU_self haq.1
                refine lv_aload_n hx hb dL_law_328 rfl (lv_at hl 4 rfl) ?_
                refine lv_bipush (v := 40) hx hb dL_law_329 (by decide) ?_
                refine lv_dup2_11 hx hb dL_law_331 rfl rfl ?_
                obtain ⟨hb_143, h⟩ := h
                refine zw_iald hx hb hE.1 hW (gC haq) hb_143 dL_law_332 ?_
                refine lv_iconst (v := 1) hx hb dL_law_333 (by decide) ?_
                refine lv_iadd hx hb dL_law_334 ?_
                obtain ⟨hb_144, h⟩ := h
                obtain ⟨f145, ef145⟩ : ∃ y, y = upd f141 ((40 : Int32).toNatClampNeg) ((f141 ((40 : Int32).toNatClampNeg)) + 1) := ⟨_, rfl⟩
                replace h := h f145 ef145
                refine zw_iast hx hb hE.1 hW (gC haq) hb_144 dL_law_335 (gP haq) (fun H locs hW => ?_)
                rw [← ef145] at hW
                obtain ⟨g146, eg146⟩ : ∃ y, y = gU D g142 aq 41 f145 := ⟨_, rfl⟩
                rw [← eg146] at hW
                replace hah : gA D S0 g146 ah 41 f2_ := by rw [eg146]; exact gU_ne hah (hne)
                replace haq : gA D S0 g146 aq 41 f145 := by rw [eg146]; exact gU_self haq.1
                refine lv_goto (tgt := 438) hx hb dL_law_336 (by decide) ?_
                exact tL_law_438 l hlt D S0 ah aq hne hx hb hr hml hown hts hX hbl hbS hlocks hS0 hE K hK x4 f2_ f145 (n + 601 + 1 + 1) k139 g146 _ _ _ h hah haq hW (lv_sub hl [1, 2, 3, 4, 5] rfl)
              · replace h := h.2 c_132
                refine lv_iconst (v := 0) hx hb dL_law_297 (by decide) ?_
                exact h.elim
            · replace h := h.2 c_131
              refine lv_iconst (v := 5) hx hb dL_law_289 (by decide) ?_
              refine lv_goto (tgt := 294) hx hb dL_law_290 (by decide) ?_
              refine lv_icmp_eq (tgt := 299) hx hb dL_law_294 (by decide) (fun c_147 => ?_) (fun c_147 => ?_)
              · replace h := h.1 c_147
                refine lv_aload_n hx hb dL_law_299 rfl (lv_at hl 4 rfl) ?_
                refine lv_iload hx hb dL_law_300 (lv_at hl 0 rfl) ?_
                refine lv_iload hx hb dL_law_302 (lv_at hl 7 rfl) ?_
                refine lv_iconst (v := 4) hx hb dL_law_304 (by decide) ?_
                refine lv_ishr hx hb dL_law_305 ?_
                refine lv_bipush (v := 6) hx hb dL_law_306 (by decide) ?_
                refine zc_i (va_runS (As := [.int (x6 >>> (4 &&& 31)), .int 6]) (rest := [.int r76, .ref aq]) ⟨hx, hb, hml, hown, hts⟩ (cL_low_ok l hlt D S0 g k130 (x6 >>> (4 &&& 31)) 6 _ h) (va_cwS 2 hts gL_law_L_low rfl rfl rfl (by decide +kernel) ⟨Nat.le_of_ble_eq_true rfl, Nat.le_of_ble_eq_true rfl⟩) (zpreS hE hs hW) rfl rfl hl.1 rfl (lv_room (Nat.le_of_ble_eq_true rfl)) dL_law_308 ⟨by show _ ≤ 653899; omega, by show _ ≤ 7139484; omega⟩) hW (fun r148 k149 H locs h hW => ?_)
                replace hW := xW_start hW
                refine W.widen (k := n + 601 + 1 + 1) (n := 8 * (n + 601 + 1 + 1)) (by omega) (by omega) ?_
                obtain ⟨hb_150, h⟩ := h
                obtain ⟨f151, ef151⟩ : ∃ y, y = upd f3_ (r76.toNatClampNeg) r148 := ⟨_, rfl⟩
                replace h := h f151 ef151
                refine zw_iast hx hb hE.1 hW (gC haq) hb_150 dL_law_311 (gP haq) (fun H locs hW => ?_)
                rw [← ef151] at hW
                obtain ⟨g152, eg152⟩ : ∃ y, y = gU D g aq 41 f151 := ⟨_, rfl⟩
                rw [← eg152] at hW
                replace hah : gA D S0 g152 ah 41 f2_ := by rw [eg152]; exact gU_ne hah (hne)
                replace haq : gA D S0 g152 aq 41 f151 := by rw [eg152]; exact gU_self haq.1
                refine lv_aload_n hx hb dL_law_312 rfl (lv_at hl 4 rfl) ?_
                refine lv_bipush (v := 20) hx hb dL_law_313 (by decide) ?_
                refine lv_iload hx hb dL_law_315 (lv_at hl 0 rfl) ?_
                refine lv_iadd hx hb dL_law_317 ?_
                refine lv_iload hx hb dL_law_318 (lv_at hl 7 rfl) ?_
                refine lv_bipush (v := 9) hx hb dL_law_320 (by decide) ?_
                refine lv_ishr hx hb dL_law_322 ?_
                refine lv_iconst (v := 2) hx hb dL_law_323 (by decide) ?_
                refine zc_i (va_runS (As := [.int (x6 >>> (9 &&& 31)), .int 2]) (rest := [.int (20 + r76), .ref aq]) ⟨hx, hb, hml, hown, hts⟩ (cL_low_ok l hlt D S0 g152 k149 (x6 >>> (9 &&& 31)) 2 _ h) (va_cwS 2 hts gL_law_L_low rfl rfl rfl (by decide +kernel) ⟨Nat.le_of_ble_eq_true rfl, Nat.le_of_ble_eq_true rfl⟩) (zpreS hE hs hW) rfl rfl hl.1 rfl (lv_room (Nat.le_of_ble_eq_true rfl)) dL_law_324 ⟨by show _ ≤ 653899; omega, by show _ ≤ 7139484; omega⟩) hW (fun r153 k154 H locs h hW => ?_)
                replace hW := xW_start hW
                refine W.widen (k := n + 601 + 1 + 1) (n := 8 * (n + 601 + 1 + 1)) (by omega) (by omega) ?_
                obtain ⟨hb_155, h⟩ := h
                obtain ⟨f156, ef156⟩ : ∃ y, y = upd f151 ((20 + r76).toNatClampNeg) r153 := ⟨_, rfl⟩
                replace h := h f156 ef156
                refine zw_iast hx hb hE.1 hW (gC haq) hb_155 dL_law_327 (gP haq) (fun H locs hW => ?_)
                rw [← ef156] at hW
                obtain ⟨g157, eg157⟩ : ∃ y, y = gU D g152 aq 41 f156 := ⟨_, rfl⟩
                rw [← eg157] at hW
                replace hah : gA D S0 g157 ah 41 f2_ := by rw [eg157]; exact gU_ne hah (hne)
                replace haq : gA D S0 g157 aq 41 f156 := by rw [eg157]; exact gU_self haq.1
                refine lv_aload_n hx hb dL_law_328 rfl (lv_at hl 4 rfl) ?_
                refine lv_bipush (v := 40) hx hb dL_law_329 (by decide) ?_
                refine lv_dup2_11 hx hb dL_law_331 rfl rfl ?_
                obtain ⟨hb_158, h⟩ := h
                refine zw_iald hx hb hE.1 hW (gC haq) hb_158 dL_law_332 ?_
                refine lv_iconst (v := 1) hx hb dL_law_333 (by decide) ?_
                refine lv_iadd hx hb dL_law_334 ?_
                obtain ⟨hb_159, h⟩ := h
                obtain ⟨f160, ef160⟩ : ∃ y, y = upd f156 ((40 : Int32).toNatClampNeg) ((f156 ((40 : Int32).toNatClampNeg)) + 1) := ⟨_, rfl⟩
                replace h := h f160 ef160
                refine zw_iast hx hb hE.1 hW (gC haq) hb_159 dL_law_335 (gP haq) (fun H locs hW => ?_)
                rw [← ef160] at hW
                obtain ⟨g161, eg161⟩ : ∃ y, y = gU D g157 aq 41 f160 := ⟨_, rfl⟩
                rw [← eg161] at hW
                replace hah : gA D S0 g161 ah 41 f2_ := by rw [eg161]; exact gU_ne hah (hne)
                replace haq : gA D S0 g161 aq 41 f160 := by rw [eg161]; exact gU_self haq.1
                refine lv_goto (tgt := 438) hx hb dL_law_336 (by decide) ?_
                exact tL_law_438 l hlt D S0 ah aq hne hx hb hr hml hown hts hX hbl hbS hlocks hS0 hE K hK x4 f2_ f160 (n + 601 + 1 + 1) k154 g161 _ _ _ h hah haq hW (lv_sub hl [1, 2, 3, 4, 5] rfl)
              · replace h := h.2 c_147
                refine lv_iconst (v := 0) hx hb dL_law_297 (by decide) ?_
                exact h.elim
    · replace h := h.1 c_79
      refine lv_iload hx hb dL_law_182 (lv_at hl 0 rfl) ?_
      refine lv_aload_n hx hb dL_law_184 rfl (lv_at hl 3 rfl) ?_
      refine lv_bipush (v := 40) hx hb dL_law_185 (by decide) ?_
      obtain ⟨hb_162, h⟩ := h
      refine zw_iald hx hb hE.1 hW (gC hah) hb_162 dL_law_187 ?_
      refine lv_icmp_ne (tgt := 210) hx hb dL_law_188 (by decide) (fun c_163 => ?_) (fun c_163 => ?_)
      · replace h := h.2 c_163
        refine lv_iconst (v := 0) hx hb dL_law_210 (by decide) ?_
        exact h.elim
      · replace h := h.1 c_163
        refine lv_aload_n hx hb dL_law_191 rfl (lv_at hl 2 rfl) ?_
        refine lv_iload hx hb dL_law_192 (lv_at hl 0 rfl) ?_
        obtain ⟨hb_164, h⟩ := h
        refine zxc_i (vx_runV (As := [.int r76]) (rest := []) ⟨hx, hb, hml, hown, hts⟩ (cX5_listed_ok l hlt D S0 g k77 r76 _ _ h) (cwV 1 hts gL_law_X5_listed rfl rfl rfl (by decide +kernel) ⟨Nat.le_of_ble_eq_true rfl, Nat.le_of_ble_eq_true rfl⟩) (zpreV (q := (RX5, TX5, 7)) hE hs hW xC_U rfl) rfl rfl hl.1 rfl (lv_room (Nat.le_of_ble_eq_true rfl)) dL_law_194 ⟨by show _ ≤ 653899; omega, by show _ ≤ 7139484; omega⟩) hW (fun E ce q9 k166 H locs h hW hcell hv9 hcl9 => h.elim) (fun r165 k166 H locs h hW => ?_)
        replace hW := xW_start hW
        refine W.widen (k := n + 601 + 1) (n := 8 * (n + 601 + 1)) (by omega) (by omega) ?_
        refine lv_iconst (v := (-1)) hx hb dL_law_197 (by decide) ?_
        refine lv_icmp_ne (tgt := 210) hx hb dL_law_198 (by decide) (fun c_167 => ?_) (fun c_167 => ?_)
        · replace h := h.2 c_167
          refine lv_iconst (v := 0) hx hb dL_law_210 (by decide) ?_
          exact h.elim
        · replace h := h.1 c_167
          refine lv_aload_n hx hb dL_law_201 rfl (lv_at hl 2 rfl) ?_
          refine lv_iload hx hb dL_law_202 (lv_at hl 0 rfl) ?_
          obtain ⟨hb_168, h⟩ := h
          refine zxc_i (vx_runV (As := [.int r76]) (rest := []) ⟨hx, hb, hml, hown, hts⟩ (cX5_isFree_ok l hlt D S0 g k166 r76 _ _ h) (cwV 1 hts gL_law_X5_isFree rfl rfl rfl (by decide +kernel) ⟨Nat.le_of_ble_eq_true rfl, Nat.le_of_ble_eq_true rfl⟩) (zpreV (q := (RX5, TX5, 7)) hE hs hW xC_U rfl) rfl rfl hl.1 rfl (lv_room (Nat.le_of_ble_eq_true rfl)) dL_law_204 ⟨by show _ ≤ 653899; omega, by show _ ≤ 7139484; omega⟩) hW (fun E ce q9 k170 H locs h hW hcell hv9 hcl9 => h.elim) (fun r169 k170 H locs h hW => ?_)
          replace h := h.1
          replace hW := xW_start hW
          refine W.widen (k := n + 601 + 1 + 1) (n := 8 * (n + 601 + 1 + 1)) (by omega) (by omega) ?_
          refine lv_if_ne (tgt := 212) hx hb dL_law_207 (by decide) (fun c_171 => ?_) (fun c_171 => ?_)
          · replace h := h.2 c_171
            refine lv_aload_n hx hb dL_law_212 rfl (lv_at hl 3 rfl) ?_
            refine lv_iload hx hb dL_law_213 (lv_at hl 0 rfl) ?_
            refine lv_iload hx hb dL_law_215 (lv_at hl 7 rfl) ?_
            refine lv_iconst (v := 4) hx hb dL_law_217 (by decide) ?_
            refine lv_ishr hx hb dL_law_218 ?_
            refine lv_bipush (v := 6) hx hb dL_law_219 (by decide) ?_
            refine zc_i (va_runS (As := [.int (x6 >>> (4 &&& 31)), .int 6]) (rest := [.int r76, .ref ah]) ⟨hx, hb, hml, hown, hts⟩ (cL_low_ok l hlt D S0 g k170 (x6 >>> (4 &&& 31)) 6 _ h) (va_cwS 2 hts gL_law_L_low rfl rfl rfl (by decide +kernel) ⟨Nat.le_of_ble_eq_true rfl, Nat.le_of_ble_eq_true rfl⟩) (zpreS hE hs hW) rfl rfl hl.1 rfl (lv_room (Nat.le_of_ble_eq_true rfl)) dL_law_221 ⟨by show _ ≤ 653899; omega, by show _ ≤ 7139484; omega⟩) hW (fun r172 k173 H locs h hW => ?_)
            replace hW := xW_start hW
            refine W.widen (k := n + 601 + 1 + 1) (n := 8 * (n + 601 + 1 + 1)) (by omega) (by omega) ?_
            obtain ⟨hb_174, h⟩ := h
            obtain ⟨f175, ef175⟩ : ∃ y, y = upd f2_ (r76.toNatClampNeg) r172 := ⟨_, rfl⟩
            replace h := h f175 ef175
            refine zw_iast hx hb hE.1 hW (gC hah) hb_174 dL_law_224 (gP hah) (fun H locs hW => ?_)
            rw [← ef175] at hW
            obtain ⟨g176, eg176⟩ : ∃ y, y = gU D g ah 41 f175 := ⟨_, rfl⟩
            rw [← eg176] at hW
            replace hah : gA D S0 g176 ah 41 f175 := by rw [eg176]; exact gU_self hah.1
            replace haq : gA D S0 g176 aq 41 f3_ := by rw [eg176]; exact gU_ne haq (hne.symm)
            refine lv_aload_n hx hb dL_law_225 rfl (lv_at hl 3 rfl) ?_
            refine lv_bipush (v := 20) hx hb dL_law_226 (by decide) ?_
            refine lv_iload hx hb dL_law_228 (lv_at hl 0 rfl) ?_
            refine lv_iadd hx hb dL_law_230 ?_
            refine lv_iload hx hb dL_law_231 (lv_at hl 7 rfl) ?_
            refine lv_bipush (v := 9) hx hb dL_law_233 (by decide) ?_
            refine lv_ishr hx hb dL_law_235 ?_
            refine lv_iconst (v := 2) hx hb dL_law_236 (by decide) ?_
            refine zc_i (va_runS (As := [.int (x6 >>> (9 &&& 31)), .int 2]) (rest := [.int (20 + r76), .ref ah]) ⟨hx, hb, hml, hown, hts⟩ (cL_low_ok l hlt D S0 g176 k173 (x6 >>> (9 &&& 31)) 2 _ h) (va_cwS 2 hts gL_law_L_low rfl rfl rfl (by decide +kernel) ⟨Nat.le_of_ble_eq_true rfl, Nat.le_of_ble_eq_true rfl⟩) (zpreS hE hs hW) rfl rfl hl.1 rfl (lv_room (Nat.le_of_ble_eq_true rfl)) dL_law_237 ⟨by show _ ≤ 653899; omega, by show _ ≤ 7139484; omega⟩) hW (fun r177 k178 H locs h hW => ?_)
            replace hW := xW_start hW
            refine W.widen (k := n + 601 + 1 + 1) (n := 8 * (n + 601 + 1 + 1)) (by omega) (by omega) ?_
            obtain ⟨hb_179, h⟩ := h
            obtain ⟨f180, ef180⟩ : ∃ y, y = upd f175 ((20 + r76).toNatClampNeg) r177 := ⟨_, rfl⟩
            replace h := h f180 ef180
            refine zw_iast hx hb hE.1 hW (gC hah) hb_179 dL_law_240 (gP hah) (fun H locs hW => ?_)
            rw [← ef180] at hW
            obtain ⟨g181, eg181⟩ : ∃ y, y = gU D g176 ah 41 f180 := ⟨_, rfl⟩
            rw [← eg181] at hW
            replace hah : gA D S0 g181 ah 41 f180 := by rw [eg181]; exact gU_self hah.1
            replace haq : gA D S0 g181 aq 41 f3_ := by rw [eg181]; exact gU_ne haq (hne.symm)
            refine lv_aload_n hx hb dL_law_241 rfl (lv_at hl 3 rfl) ?_
            refine lv_bipush (v := 40) hx hb dL_law_242 (by decide) ?_
            refine lv_dup2_11 hx hb dL_law_244 rfl rfl ?_
            obtain ⟨hb_182, h⟩ := h
            refine zw_iald hx hb hE.1 hW (gC hah) hb_182 dL_law_245 ?_
            refine lv_iconst (v := 1) hx hb dL_law_246 (by decide) ?_
            refine lv_iadd hx hb dL_law_247 ?_
            obtain ⟨hb_183, h⟩ := h
            obtain ⟨f184, ef184⟩ : ∃ y, y = upd f180 ((40 : Int32).toNatClampNeg) ((f180 ((40 : Int32).toNatClampNeg)) + 1) := ⟨_, rfl⟩
            replace h := h f184 ef184
            refine zw_iast hx hb hE.1 hW (gC hah) hb_183 dL_law_248 (gP hah) (fun H locs hW => ?_)
            rw [← ef184] at hW
            obtain ⟨g185, eg185⟩ : ∃ y, y = gU D g181 ah 41 f184 := ⟨_, rfl⟩
            rw [← eg185] at hW
            replace hah : gA D S0 g185 ah 41 f184 := by rw [eg185]; exact gU_self hah.1
            replace haq : gA D S0 g185 aq 41 f3_ := by rw [eg185]; exact gU_ne haq (hne.symm)
            refine lv_goto (tgt := 438) hx hb dL_law_249 (by decide) ?_
            exact tL_law_438 l hlt D S0 ah aq hne hx hb hr hml hown hts hX hbl hbS hlocks hS0 hE K hK x4 f184 f3_ (n + 601 + 1 + 1) k178 g185 _ _ _ h hah haq hW (lv_sub hl [1, 2, 3, 4, 5] rfl)
          · replace h := h.1 c_171
            refine lv_iconst (v := 0) hx hb dL_law_210 (by decide) ?_
            exact h.elim
  · replace h := h.2 c_78
    refine lv_aload hx hb dL_law_161 (lv_at hl 9 rfl) ?_
    refine lv_aload_n hx hb dL_law_163 rfl (lv_at hl 2 rfl) ?_
    refine lv_aload_n hx hb dL_law_164 rfl (lv_at hl 3 rfl) ?_
    refine lv_aload_n hx hb dL_law_165 rfl (lv_at hl 4 rfl) ?_
    obtain ⟨hb_186, h⟩ := h
    refine zc_q (va_runS (As := [.ref S0, .ref ah, .ref aq]) (rest := [.ref a8]) ⟨hx, hb, hml, hown, hts⟩ (cL_tell_ok l hlt D S0 g k77 ah aq f2_ f3_ hah haq _ h) (va_cwS 3 hts gL_law_L_tell rfl rfl rfl (by decide +kernel) ⟨Nat.le_of_ble_eq_true rfl, Nat.le_of_ble_eq_true rfl⟩) (zpreS hE hs hW) rfl rfl hl.1 rfl (lv_room (Nat.le_of_ble_eq_true rfl)) dL_law_166 ⟨by show _ ≤ 653899; omega, by show _ ≤ 7139484; omega⟩) hW (fun r187 u189 H locs h hW => ?_)
    obtain ⟨k188, q190, f192⟩ := u189
    obtain ⟨h, r187e, hg_193, h9_194⟩ := h
    replace r187e : r187 = some q190 := r187e
    subst r187e
    replace hg_193 : g q190 = none := hg_193
    replace hW : zW D S0 (xR D S0 (gU D g q190 64 f192) k188 k188) s.heap H locs := hW
    replace h9_194 : S0 + 9 ≤ q190 := h9_194
    obtain ⟨g191, eg191⟩ : ∃ y, y = gU D g q190 64 f192 := ⟨_, rfl⟩
    rw [← eg191] at hW
    replace hah : gA D S0 g191 ah 41 f2_ := by rw [eg191]; exact gU_ne hah (gA_ne hah hg_193)
    replace haq : gA D S0 g191 aq 41 f3_ := by rw [eg191]; exact gU_ne haq (gA_ne haq hg_193)
    replace ha8 : gA D S0 g191 a8 64 f8_ := by rw [eg191]; exact gU_ne ha8 (gA_ne ha8 hg_193)
    have hq190 : gA D S0 g191 q190 64 f192 := by rw [eg191]; exact gU_self h9_194
    refine W.widen (k := n + 601 + 200) (n := 8 * (n + 601 + 200)) (by omega) (by omega) ?_
    refine zc_i (va_runS (As := [.ref a8, .ref q190]) (rest := []) ⟨hx, hb, hml, hown, hts⟩ (cL_same_ok l hlt D S0 g191 k188 a8 q190 f8_ f192 ha8 hq190 _ h) (va_cwS 2 hts gL_law_L_same rfl rfl rfl (by decide +kernel) ⟨Nat.le_of_ble_eq_true rfl, Nat.le_of_ble_eq_true rfl⟩) (zpreS hE hs hW) rfl rfl hl.1 rfl (lv_room (Nat.le_of_ble_eq_true rfl)) dL_law_169 ⟨by show _ ≤ 653899; omega, by show _ ≤ 7139484; omega⟩) hW (fun r195 k196 H locs h hW => ?_)
    replace h := h.1
    replace hW := xW_start hW
    refine W.widen (k := n + 601 + 200) (n := 8 * (n + 601 + 200)) (by omega) (by omega) ?_
    refine lv_if_ne (tgt := 438) hx hb dL_law_172 (by decide) (fun c_197 => ?_) (fun c_197 => ?_)
    · replace h := h.2 c_197
      exact tL_law_438 l hlt D S0 ah aq hne hx hb hr hml hown hts hX hbl hbS hlocks hS0 hE K hK x4 f2_ f3_ (n + 601 + 200) k196 g191 _ _ _ h hah haq hW (lv_sub hl [1, 2, 3, 4, 5] rfl)
    · replace h := h.1 c_197
      refine lv_iconst (v := 0) hx hb dL_law_175 (by decide) ?_
      exact h.elim
def wL_law_95 (S0 : Nat) (L : Nat) (xs : Nat → Int32) (K : Int32 → (Nat → Int32) → (Nat → Int32) → Nat → kS → Prop) (x4 : Int32) (x5 : Int32) (x6 : Int32) (x7 : Int32) (f2_ : (Nat → Int32)) (f3_ : (Nat → Int32)) (n : Nat) (k : kS) : Prop := (n ≤ 100000 ∧ (n + 200 ≤ 100000 ∧ (wL_tell S0 k f2_ f3_ (fun f64 k60 => ((x7 = 1 → (wL_low S0 k60 (x6 >>> (4 &&& 31)) 6 (fun r68 k69 => (wL_low S0 k69 (x6 >>> (9 &&& 31)) 2 (fun r70 k71 => (n + 200 + 20 ≤ 100000 ∧ (wL_first S0 k71 f2_ r68 r70 (fun r73 k74 => (wL_law_144 S0 L xs K x4 x5 x6 x7 r73 f2_ f3_ f64 (n + 200 + 20) k74))))))))) ∧ (¬ x7 = 1 → ((x7 = 2 → (wL_low S0 k60 (x6 >>> (4 &&& 31)) 6 (fun r199 k200 => (wL_low S0 k200 (x6 >>> (9 &&& 31)) 2 (fun r201 k202 => (n + 200 + 20 ≤ 100000 ∧ (wL_first S0 k202 f2_ r199 r201 (fun r204 k205 => (wL_law_144 S0 L xs K x4 x5 x6 x7 r204 f2_ f3_ f64 (n + 200 + 20) k205))))))))) ∧ (¬ x7 = 2 → (wL_law_144 S0 L xs K x4 x5 x6 x7 (-1) f2_ f3_ f64 (n + 200) k60)))))))))
set_option maxHeartbeats 40000000 in
set_option maxRecDepth 100000 in
theorem tL_law_95 (l : Launch) (hlt : l.stackTraces = false) (D : zD) (S0 : Nat) (ah aq : Nat) (hne : ah ≠ aq) {p : Program} {e : Env} {s : State} {m : MethodId} {below : List Frame} {meth : Method} {c : Code} {b L : Nat} {xs : Nat → Int32} (hx : p.tables.exec = Jvm.exec) (hb : c.code = code) (hr : meth.sig.returnType = ret) (hml : c.maxLocals = 12) (hown : s.vm.findClass RL = some m.cls) (hts : ∀ w ∈ wsL_law, w.before #[Value.ref b] s = true) (hX : va_X b L xs s s.heap) (hbl : b < s.heap.size) (hbS : b < S0) (hlocks : meth.locks = false) (hS0 : S0 = s.heap.size) (hE : zE D S0 s) (K : Int32 → (Nat → Int32) → (Nat → Int32) → Nat → kS → Prop) (hK : ∀ (x4 : Int32) (f2_ : Nat → Int32) (f3_ : Nat → Int32) (n : Nat) (k : kS) (g : zF) (H : Heap) (locs : List Loc) (ls : Array Slot), K x4 f2_ f3_ n k → gA D S0 g ah 41 f2_ → gA D S0 g aq 41 f3_ → zW D S0 (xR D S0 g k k) s.heap H locs → lv_has ls 12 [(0, .ref b), (1, .ref S0), (2, .ref ah), (3, .ref aq), (4, .int x4)] → W p l e room_1 s m #[Value.ref b] below meth c H locs n (8 * n) (lw_Z below #[Value.ref b] s) (F0 m 21 ls [])) : ∀ (x4 : Int32) (x5 : Int32) (x6 : Int32) (x7 : Int32) (f2_ : Nat → Int32) (f3_ : Nat → Int32) (n : Nat) (k : kS) (g : zF) (H : Heap) (locs : List Loc) (ls : Array Slot), wL_law_95 S0 L xs K x4 x5 x6 x7 f2_ f3_ n k → gA D S0 g ah 41 f2_ → gA D S0 g aq 41 f3_ → zW D S0 (xR D S0 g k k) s.heap H locs → lv_has ls 12 [(0, .ref b), (1, .ref S0), (2, .ref ah), (3, .ref aq), (4, .int x4), (5, .int x5), (6, .int x6), (7, .int x7)] → W p l e room_1 s m #[Value.ref b] below meth c H locs n (8 * n) (lw_Z below #[Value.ref b] s) (F0 m 95 ls []) := by
  have hs : S0 ≤ s.heap.size := Nat.le_of_eq hS0
  intro x4 x5 x6 x7 f2_ f3_ n k g H locs ls h hah haq hW hl
  unfold wL_law_95 at h
  obtain ⟨hb_n, h⟩ := h
  refine lv_aload_n hx hb dL_law_95 rfl (lv_at hl 1 rfl) ?_
  refine lv_aload_n hx hb dL_law_96 rfl (lv_at hl 2 rfl) ?_
  refine lv_aload_n hx hb dL_law_97 rfl (lv_at hl 3 rfl) ?_
  obtain ⟨hb_58, h⟩ := h
  refine zc_q (va_runS (As := [.ref S0, .ref ah, .ref aq]) (rest := []) ⟨hx, hb, hml, hown, hts⟩ (cL_tell_ok l hlt D S0 g k ah aq f2_ f3_ hah haq _ h) (va_cwS 3 hts gL_law_L_tell rfl rfl rfl (by decide +kernel) ⟨Nat.le_of_ble_eq_true rfl, Nat.le_of_ble_eq_true rfl⟩) (zpreS hE hs hW) rfl rfl hl.1 rfl (lv_room (Nat.le_of_ble_eq_true rfl)) dL_law_98 ⟨by show _ ≤ 653899; omega, by show _ ≤ 7139484; omega⟩) hW (fun r59 u61 H locs h hW => ?_)
  obtain ⟨k60, q62, f64⟩ := u61
  obtain ⟨h, r59e, hg_65, h9_66⟩ := h
  replace r59e : r59 = some q62 := r59e
  subst r59e
  replace hg_65 : g q62 = none := hg_65
  replace hW : zW D S0 (xR D S0 (gU D g q62 64 f64) k60 k60) s.heap H locs := hW
  replace h9_66 : S0 + 9 ≤ q62 := h9_66
  obtain ⟨g63, eg63⟩ : ∃ y, y = gU D g q62 64 f64 := ⟨_, rfl⟩
  rw [← eg63] at hW
  replace hah : gA D S0 g63 ah 41 f2_ := by rw [eg63]; exact gU_ne hah (gA_ne hah hg_65)
  replace haq : gA D S0 g63 aq 41 f3_ := by rw [eg63]; exact gU_ne haq (gA_ne haq hg_65)
  have hq62 : gA D S0 g63 q62 64 f64 := by rw [eg63]; exact gU_self h9_66
  refine W.widen (k := n + 200) (n := 8 * (n + 200)) (by omega) (by omega) ?_
  refine lv_astore (lv' := [(8, .ref q62), (0, .ref b), (1, .ref S0), (2, .ref ah), (3, .ref aq), (4, .int x4), (5, .int x5), (6, .int x6), (7, .int x7)]) hx hb dL_law_101 hl (by decide) rfl (fun ls hl => ?_)
  refine lv_iload hx hb dL_law_103 (lv_at hl 8 rfl) ?_
  refine lv_iconst (v := 1) hx hb dL_law_105 (by decide) ?_
  refine lv_icmp_eq (tgt := 115) hx hb dL_law_106 (by decide) (fun c_67 => ?_) (fun c_67 => ?_)
  · replace h := h.1 c_67
    refine lv_aload_n hx hb dL_law_115 rfl (lv_at hl 2 rfl) ?_
    refine lv_aload_n hx hb dL_law_116 rfl (lv_at hl 3 rfl) ?_
    refine lv_iload hx hb dL_law_117 (lv_at hl 7 rfl) ?_
    refine lv_iconst (v := 4) hx hb dL_law_119 (by decide) ?_
    refine lv_ishr hx hb dL_law_120 ?_
    refine lv_bipush (v := 6) hx hb dL_law_121 (by decide) ?_
    refine zc_i (va_runS (As := [.int (x6 >>> (4 &&& 31)), .int 6]) (rest := [.ref ah, .ref S0]) ⟨hx, hb, hml, hown, hts⟩ (cL_low_ok l hlt D S0 g63 k60 (x6 >>> (4 &&& 31)) 6 _ h) (va_cwS 2 hts gL_law_L_low rfl rfl rfl (by decide +kernel) ⟨Nat.le_of_ble_eq_true rfl, Nat.le_of_ble_eq_true rfl⟩) (zpreS hE hs hW) rfl rfl hl.1 rfl (lv_room (Nat.le_of_ble_eq_true rfl)) dL_law_123 ⟨by show _ ≤ 653899; omega, by show _ ≤ 7139484; omega⟩) hW (fun r68 k69 H locs h hW => ?_)
    replace hW := xW_start hW
    refine W.widen (k := n + 200) (n := 8 * (n + 200)) (by omega) (by omega) ?_
    refine lv_iload hx hb dL_law_126 (lv_at hl 7 rfl) ?_
    refine lv_bipush (v := 9) hx hb dL_law_128 (by decide) ?_
    refine lv_ishr hx hb dL_law_130 ?_
    refine lv_iconst (v := 2) hx hb dL_law_131 (by decide) ?_
    refine zc_i (va_runS (As := [.int (x6 >>> (9 &&& 31)), .int 2]) (rest := [.int r68, .ref ah, .ref S0]) ⟨hx, hb, hml, hown, hts⟩ (cL_low_ok l hlt D S0 g63 k69 (x6 >>> (9 &&& 31)) 2 _ h) (va_cwS 2 hts gL_law_L_low rfl rfl rfl (by decide +kernel) ⟨Nat.le_of_ble_eq_true rfl, Nat.le_of_ble_eq_true rfl⟩) (zpreS hE hs hW) rfl rfl hl.1 rfl (lv_room (Nat.le_of_ble_eq_true rfl)) dL_law_132 ⟨by show _ ≤ 653899; omega, by show _ ≤ 7139484; omega⟩) hW (fun r70 k71 H locs h hW => ?_)
    replace hW := xW_start hW
    refine W.widen (k := n + 200) (n := 8 * (n + 200)) (by omega) (by omega) ?_
    obtain ⟨hb_72, h⟩ := h
    refine zc_i (va_runS (As := [.ref S0, .ref ah, .int r68, .int r70]) (rest := []) ⟨hx, hb, hml, hown, hts⟩ (cL_first_ok l hlt D S0 g63 k71 ah f2_ r68 r70 hah _ h) (va_cwS 4 hts gL_law_L_first rfl rfl rfl (by decide +kernel) ⟨Nat.le_of_ble_eq_true rfl, Nat.le_of_ble_eq_true rfl⟩) (zpreS hE hs hW) rfl rfl hl.1 rfl (lv_room (Nat.le_of_ble_eq_true rfl)) dL_law_135 ⟨by show _ ≤ 653899; omega, by show _ ≤ 7139484; omega⟩) hW (fun r73 k74 H locs h hW => ?_)
    replace hW := xW_start hW
    refine W.widen (k := n + 200 + 20) (n := 8 * (n + 200 + 20)) (by omega) (by omega) ?_
    refine lv_goto (tgt := 142) hx hb dL_law_138 (by decide) ?_
    refine lv_istore (lv' := [(9, .int r73), (8, .ref q62), (0, .ref b), (1, .ref S0), (2, .ref ah), (3, .ref aq), (4, .int x4), (5, .int x5), (6, .int x6), (7, .int x7)]) hx hb dL_law_142 hl (by decide) rfl (fun ls hl => ?_)
    exact tL_law_144 l hlt D S0 ah aq hne hx hb hr hml hown hts hX hbl hbS hlocks hS0 hE K hK x4 x5 x6 x7 r73 f2_ f3_ f64 (n + 200 + 20) k74 q62 g63 _ _ _ h hah haq hq62 hW (lv_sub hl [2, 3, 4, 5, 6, 7, 8, 9, 1, 0] rfl)
  · replace h := h.2 c_67
    refine lv_iload hx hb dL_law_109 (lv_at hl 8 rfl) ?_
    refine lv_iconst (v := 2) hx hb dL_law_111 (by decide) ?_
    refine lv_icmp_ne (tgt := 141) hx hb dL_law_112 (by decide) (fun c_198 => ?_) (fun c_198 => ?_)
    · replace h := h.2 c_198
      refine lv_iconst (v := (-1)) hx hb dL_law_141 (by decide) ?_
      refine lv_istore (lv' := [(9, .int (-1)), (8, .ref q62), (0, .ref b), (1, .ref S0), (2, .ref ah), (3, .ref aq), (4, .int x4), (5, .int x5), (6, .int x6), (7, .int x7)]) hx hb dL_law_142 hl (by decide) rfl (fun ls hl => ?_)
      exact tL_law_144 l hlt D S0 ah aq hne hx hb hr hml hown hts hX hbl hbS hlocks hS0 hE K hK x4 x5 x6 x7 (-1) f2_ f3_ f64 (n + 200) k60 q62 g63 _ _ _ h hah haq hq62 hW (lv_sub hl [2, 3, 4, 5, 6, 7, 8, 9, 1, 0] rfl)
    · replace h := h.1 c_198
      refine lv_aload_n hx hb dL_law_115 rfl (lv_at hl 2 rfl) ?_
      refine lv_aload_n hx hb dL_law_116 rfl (lv_at hl 3 rfl) ?_
      refine lv_iload hx hb dL_law_117 (lv_at hl 7 rfl) ?_
      refine lv_iconst (v := 4) hx hb dL_law_119 (by decide) ?_
      refine lv_ishr hx hb dL_law_120 ?_
      refine lv_bipush (v := 6) hx hb dL_law_121 (by decide) ?_
      refine zc_i (va_runS (As := [.int (x6 >>> (4 &&& 31)), .int 6]) (rest := [.ref ah, .ref S0]) ⟨hx, hb, hml, hown, hts⟩ (cL_low_ok l hlt D S0 g63 k60 (x6 >>> (4 &&& 31)) 6 _ h) (va_cwS 2 hts gL_law_L_low rfl rfl rfl (by decide +kernel) ⟨Nat.le_of_ble_eq_true rfl, Nat.le_of_ble_eq_true rfl⟩) (zpreS hE hs hW) rfl rfl hl.1 rfl (lv_room (Nat.le_of_ble_eq_true rfl)) dL_law_123 ⟨by show _ ≤ 653899; omega, by show _ ≤ 7139484; omega⟩) hW (fun r199 k200 H locs h hW => ?_)
      replace hW := xW_start hW
      refine W.widen (k := n + 200) (n := 8 * (n + 200)) (by omega) (by omega) ?_
      refine lv_iload hx hb dL_law_126 (lv_at hl 7 rfl) ?_
      refine lv_bipush (v := 9) hx hb dL_law_128 (by decide) ?_
      refine lv_ishr hx hb dL_law_130 ?_
      refine lv_iconst (v := 2) hx hb dL_law_131 (by decide) ?_
      refine zc_i (va_runS (As := [.int (x6 >>> (9 &&& 31)), .int 2]) (rest := [.int r199, .ref ah, .ref S0]) ⟨hx, hb, hml, hown, hts⟩ (cL_low_ok l hlt D S0 g63 k200 (x6 >>> (9 &&& 31)) 2 _ h) (va_cwS 2 hts gL_law_L_low rfl rfl rfl (by decide +kernel) ⟨Nat.le_of_ble_eq_true rfl, Nat.le_of_ble_eq_true rfl⟩) (zpreS hE hs hW) rfl rfl hl.1 rfl (lv_room (Nat.le_of_ble_eq_true rfl)) dL_law_132 ⟨by show _ ≤ 653899; omega, by show _ ≤ 7139484; omega⟩) hW (fun r201 k202 H locs h hW => ?_)
      replace hW := xW_start hW
      refine W.widen (k := n + 200) (n := 8 * (n + 200)) (by omega) (by omega) ?_
      obtain ⟨hb_203, h⟩ := h
      refine zc_i (va_runS (As := [.ref S0, .ref ah, .int r199, .int r201]) (rest := []) ⟨hx, hb, hml, hown, hts⟩ (cL_first_ok l hlt D S0 g63 k202 ah f2_ r199 r201 hah _ h) (va_cwS 4 hts gL_law_L_first rfl rfl rfl (by decide +kernel) ⟨Nat.le_of_ble_eq_true rfl, Nat.le_of_ble_eq_true rfl⟩) (zpreS hE hs hW) rfl rfl hl.1 rfl (lv_room (Nat.le_of_ble_eq_true rfl)) dL_law_135 ⟨by show _ ≤ 653899; omega, by show _ ≤ 7139484; omega⟩) hW (fun r204 k205 H locs h hW => ?_)
      replace hW := xW_start hW
      refine W.widen (k := n + 200 + 20) (n := 8 * (n + 200 + 20)) (by omega) (by omega) ?_
      refine lv_goto (tgt := 142) hx hb dL_law_138 (by decide) ?_
      refine lv_istore (lv' := [(9, .int r204), (8, .ref q62), (0, .ref b), (1, .ref S0), (2, .ref ah), (3, .ref aq), (4, .int x4), (5, .int x5), (6, .int x6), (7, .int x7)]) hx hb dL_law_142 hl (by decide) rfl (fun ls hl => ?_)
      exact tL_law_144 l hlt D S0 ah aq hne hx hb hr hml hown hts hX hbl hbS hlocks hS0 hE K hK x4 x5 x6 x7 r204 f2_ f3_ f64 (n + 200 + 20) k205 q62 g63 _ _ _ h hah haq hq62 hW (lv_sub hl [2, 3, 4, 5, 6, 7, 8, 9, 1, 0] rfl)
def wL_law_71 (S0 : Nat) (L : Nat) (xs : Nat → Int32) (K : Int32 → (Nat → Int32) → (Nat → Int32) → Nat → kS → Prop) (x4 : Int32) (x5 : Int32) (x6 : Int32) (x7 : Int32) (f2_ : (Nat → Int32)) (f3_ : (Nat → Int32)) (n : Nat) (k : kS) : Prop := (n ≤ 100000 ∧ ((x7 ≤ 0 → (wL_law_95 S0 L xs K x4 x5 x6 x7 f2_ f3_ n k)) ∧ (¬ x7 ≤ 0 → (((3 : Int32) ≤ x7 → (wL_law_95 S0 L xs K x4 x5 x6 x7 f2_ f3_ n k)) ∧ (¬ (3 : Int32) ≤ x7 → (vp_in 40 41 ∧ (((f3_ ((40 : Int32).toNatClampNeg)) = 20 → (wL_law_95 S0 L xs K x4 x5 x6 10 f2_ f3_ n k)) ∧ (¬ (f3_ ((40 : Int32).toNatClampNeg)) = 20 → (wL_law_95 S0 L xs K x4 x5 x6 x7 f2_ f3_ n k)))))))))
set_option maxHeartbeats 40000000 in
set_option maxRecDepth 100000 in
theorem tL_law_71 (l : Launch) (hlt : l.stackTraces = false) (D : zD) (S0 : Nat) (ah aq : Nat) (hne : ah ≠ aq) {p : Program} {e : Env} {s : State} {m : MethodId} {below : List Frame} {meth : Method} {c : Code} {b L : Nat} {xs : Nat → Int32} (hx : p.tables.exec = Jvm.exec) (hb : c.code = code) (hr : meth.sig.returnType = ret) (hml : c.maxLocals = 12) (hown : s.vm.findClass RL = some m.cls) (hts : ∀ w ∈ wsL_law, w.before #[Value.ref b] s = true) (hX : va_X b L xs s s.heap) (hbl : b < s.heap.size) (hbS : b < S0) (hlocks : meth.locks = false) (hS0 : S0 = s.heap.size) (hE : zE D S0 s) (K : Int32 → (Nat → Int32) → (Nat → Int32) → Nat → kS → Prop) (hK : ∀ (x4 : Int32) (f2_ : Nat → Int32) (f3_ : Nat → Int32) (n : Nat) (k : kS) (g : zF) (H : Heap) (locs : List Loc) (ls : Array Slot), K x4 f2_ f3_ n k → gA D S0 g ah 41 f2_ → gA D S0 g aq 41 f3_ → zW D S0 (xR D S0 g k k) s.heap H locs → lv_has ls 12 [(0, .ref b), (1, .ref S0), (2, .ref ah), (3, .ref aq), (4, .int x4)] → W p l e room_1 s m #[Value.ref b] below meth c H locs n (8 * n) (lw_Z below #[Value.ref b] s) (F0 m 21 ls [])) : ∀ (x4 : Int32) (x5 : Int32) (x6 : Int32) (x7 : Int32) (f2_ : Nat → Int32) (f3_ : Nat → Int32) (n : Nat) (k : kS) (g : zF) (H : Heap) (locs : List Loc) (ls : Array Slot), wL_law_71 S0 L xs K x4 x5 x6 x7 f2_ f3_ n k → gA D S0 g ah 41 f2_ → gA D S0 g aq 41 f3_ → zW D S0 (xR D S0 g k k) s.heap H locs → lv_has ls 12 [(0, .ref b), (1, .ref S0), (2, .ref ah), (3, .ref aq), (4, .int x4), (5, .int x5), (6, .int x6), (7, .int x7)] → W p l e room_1 s m #[Value.ref b] below meth c H locs n (8 * n) (lw_Z below #[Value.ref b] s) (F0 m 71 ls []) := by
  have hs : S0 ≤ s.heap.size := Nat.le_of_eq hS0
  intro x4 x5 x6 x7 f2_ f3_ n k g H locs ls h hah haq hW hl
  unfold wL_law_71 at h
  obtain ⟨hb_n, h⟩ := h
  refine lv_iload hx hb dL_law_71 (lv_at hl 7 rfl) ?_
  refine lv_if_le (tgt := 95) hx hb dL_law_73 (by decide) (fun c_57 => ?_) (fun c_57 => ?_)
  · replace h := h.1 c_57
    exact tL_law_95 l hlt D S0 ah aq hne hx hb hr hml hown hts hX hbl hbS hlocks hS0 hE K hK x4 x5 x6 x7 f2_ f3_ n k g _ _ _ h hah haq hW (lv_sub hl [0, 1, 2, 3, 4, 5, 6, 7] rfl)
  · replace h := h.2 c_57
    refine lv_iload hx hb dL_law_76 (lv_at hl 7 rfl) ?_
    refine lv_iconst (v := 3) hx hb dL_law_78 (by decide) ?_
    refine lv_icmp_ge (tgt := 95) hx hb dL_law_79 (by decide) (fun c_206 => ?_) (fun c_206 => ?_)
    · replace h := h.1 c_206
      exact tL_law_95 l hlt D S0 ah aq hne hx hb hr hml hown hts hX hbl hbS hlocks hS0 hE K hK x4 x5 x6 x7 f2_ f3_ n k g _ _ _ h hah haq hW (lv_sub hl [0, 1, 2, 3, 4, 5, 6, 7] rfl)
    · replace h := h.2 c_206
      refine lv_aload_n hx hb dL_law_82 rfl (lv_at hl 3 rfl) ?_
      refine lv_bipush (v := 40) hx hb dL_law_83 (by decide) ?_
      obtain ⟨hb_207, h⟩ := h
      refine zw_iald hx hb hE.1 hW (gC haq) hb_207 dL_law_85 ?_
      refine lv_bipush (v := 20) hx hb dL_law_86 (by decide) ?_
      refine lv_icmp_ne (tgt := 95) hx hb dL_law_88 (by decide) (fun c_208 => ?_) (fun c_208 => ?_)
      · replace h := h.2 c_208
        exact tL_law_95 l hlt D S0 ah aq hne hx hb hr hml hown hts hX hbl hbS hlocks hS0 hE K hK x4 x5 x6 x7 f2_ f3_ n k g _ _ _ h hah haq hW (lv_sub hl [0, 1, 2, 3, 4, 5, 6, 7] rfl)
      · replace h := h.1 c_208
        refine lv_bipush (v := 10) hx hb dL_law_91 (by decide) ?_
        refine lv_istore (lv' := [(7, .int 10), (0, .ref b), (1, .ref S0), (2, .ref ah), (3, .ref aq), (4, .int x4), (5, .int x5), (6, .int x6)]) hx hb dL_law_93 hl (by decide) rfl (fun ls hl => ?_)
        exact tL_law_95 l hlt D S0 ah aq hne hx hb hr hml hown hts hX hbl hbS hlocks hS0 hE K hK x4 x5 x6 10 f2_ f3_ n k g _ _ _ h hah haq hW (lv_sub hl [1, 2, 3, 4, 5, 6, 7, 0] rfl)
def wL_law_21 (S0 : Nat) (L : Nat) (xs : Nat → Int32) : Nat → Int32 → (Nat → Int32) → (Nat → Int32) → Nat → kS → Prop
  | 0, _, _, _, _, _ => False
  | f + 1, x4, f2_, f3_, n, k => (n ≤ 100000 ∧ (((60 : Int32) ≤ x4 → (wL_law_455 S0 L xs x4 f2_ f3_ n k)) ∧ (¬ (60 : Int32) ≤ x4 → (wL_cell S0 k L xs (2 * x4) (fun r50 k51 => (wL_cell S0 k51 L xs ((2 * x4) + 1) (fun r52 k53 => (((4 : Int32) ≤ x4 → (wL_low S0 k53 (r50 >>> (3 &&& 31)) 15 (fun r55 k56 => (wL_law_71 S0 L xs (wL_law_21 S0 L xs f) x4 r50 r52 r55 f2_ f3_ n k56)))) ∧ (¬ (4 : Int32) ≤ x4 → (wL_law_71 S0 L xs (wL_law_21 S0 L xs f) x4 r50 r52 0 f2_ f3_ n k53))))))))))
set_option maxHeartbeats 40000000 in
set_option maxRecDepth 100000 in
theorem tL_law_21 (l : Launch) (hlt : l.stackTraces = false) (D : zD) (S0 : Nat) (ah aq : Nat) (hne : ah ≠ aq) {p : Program} {e : Env} {s : State} {m : MethodId} {below : List Frame} {meth : Method} {c : Code} {b L : Nat} {xs : Nat → Int32} (hx : p.tables.exec = Jvm.exec) (hb : c.code = code) (hr : meth.sig.returnType = ret) (hml : c.maxLocals = 12) (hown : s.vm.findClass RL = some m.cls) (hts : ∀ w ∈ wsL_law, w.before #[Value.ref b] s = true) (hX : va_X b L xs s s.heap) (hbl : b < s.heap.size) (hbS : b < S0) (hlocks : meth.locks = false) (hS0 : S0 = s.heap.size) (hE : zE D S0 s) : ∀ f : Nat, ∀ (x4 : Int32) (f2_ : Nat → Int32) (f3_ : Nat → Int32) (n : Nat) (k : kS) (g : zF) (H : Heap) (locs : List Loc) (ls : Array Slot), wL_law_21 S0 L xs f x4 f2_ f3_ n k → gA D S0 g ah 41 f2_ → gA D S0 g aq 41 f3_ → zW D S0 (xR D S0 g k k) s.heap H locs → lv_has ls 12 [(0, .ref b), (1, .ref S0), (2, .ref ah), (3, .ref aq), (4, .int x4)] → W p l e room_1 s m #[Value.ref b] below meth c H locs n (8 * n) (lw_Z below #[Value.ref b] s) (F0 m 21 ls []) := by
  have hs : S0 ≤ s.heap.size := Nat.le_of_eq hS0
  intro f
  induction f with
  | zero => intro x4 f2_ f3_ n k g H locs ls h; exact h.elim
  | succ f ih =>
    intro x4 f2_ f3_ n k g H locs ls h hah haq hW hl
    unfold wL_law_21 at h
    obtain ⟨hb_n, h⟩ := h
    refine lv_iload hx hb dL_law_21 (lv_at hl 4 rfl) ?_
    refine lv_bipush (v := 60) hx hb dL_law_23 (by decide) ?_
    refine lv_icmp_ge (tgt := 455) hx hb dL_law_25 (by decide) (fun c_1 => ?_) (fun c_1 => ?_)
    · replace h := h.1 c_1
      exact tL_law_455 l hlt D S0 ah aq hne hx hb hr hml hown hts hX hbl hbS hlocks hS0 hE x4 f2_ f3_ n k g _ _ _ h hah haq hW (lv_sub hl [0, 1, 2, 3, 4] rfl)
    · replace h := h.2 c_1
      refine lv_aload_n hx hb dL_law_28 rfl (lv_at hl 0 rfl) ?_
      refine lv_iconst (v := 2) hx hb dL_law_29 (by decide) ?_
      refine lv_iload hx hb dL_law_30 (lv_at hl 4 rfl) ?_
      refine lv_imul hx hb dL_law_32 ?_
      refine zc_i (va_runS (As := [.ref b, .int (2 * x4)]) (rest := []) ⟨hx, hb, hml, hown, hts⟩ (cL_cell_ok l hlt D S0 g k b L xs hbS (2 * x4) _ h) (va_cwS 2 hts gL_law_L_cell rfl rfl rfl (by decide +kernel) ⟨Nat.le_of_ble_eq_true rfl, Nat.le_of_ble_eq_true rfl⟩) (zpreSX hE hs hX hbl hbS hW) rfl rfl hl.1 rfl (lv_room (Nat.le_of_ble_eq_true rfl)) dL_law_33 ⟨by show _ ≤ 653899; omega, by show _ ≤ 7139484; omega⟩) hW (fun r50 k51 H locs h hW => ?_)
      replace hW := xW_start hW
      refine W.widen (k := n) (n := 8 * (n)) (by omega) (by omega) ?_
      refine lv_istore (lv' := [(5, .int r50), (0, .ref b), (1, .ref S0), (2, .ref ah), (3, .ref aq), (4, .int x4)]) hx hb dL_law_36 hl (by decide) rfl (fun ls hl => ?_)
      refine lv_aload_n hx hb dL_law_38 rfl (lv_at hl 1 rfl) ?_
      refine lv_iconst (v := 2) hx hb dL_law_39 (by decide) ?_
      refine lv_iload hx hb dL_law_40 (lv_at hl 5 rfl) ?_
      refine lv_imul hx hb dL_law_42 ?_
      refine lv_iconst (v := 1) hx hb dL_law_43 (by decide) ?_
      refine lv_iadd hx hb dL_law_44 ?_
      refine zc_i (va_runS (As := [.ref b, .int ((2 * x4) + 1)]) (rest := []) ⟨hx, hb, hml, hown, hts⟩ (cL_cell_ok l hlt D S0 g k51 b L xs hbS ((2 * x4) + 1) _ h) (va_cwS 2 hts gL_law_L_cell rfl rfl rfl (by decide +kernel) ⟨Nat.le_of_ble_eq_true rfl, Nat.le_of_ble_eq_true rfl⟩) (zpreSX hE hs hX hbl hbS hW) rfl rfl hl.1 rfl (lv_room (Nat.le_of_ble_eq_true rfl)) dL_law_45 ⟨by show _ ≤ 653899; omega, by show _ ≤ 7139484; omega⟩) hW (fun r52 k53 H locs h hW => ?_)
      replace hW := xW_start hW
      refine W.widen (k := n) (n := 8 * (n)) (by omega) (by omega) ?_
      refine lv_istore (lv' := [(6, .int r52), (5, .int r50), (0, .ref b), (1, .ref S0), (2, .ref ah), (3, .ref aq), (4, .int x4)]) hx hb dL_law_48 hl (by decide) rfl (fun ls hl => ?_)
      refine lv_iload hx hb dL_law_50 (lv_at hl 6 rfl) ?_
      refine lv_iconst (v := 4) hx hb dL_law_52 (by decide) ?_
      refine lv_icmp_ge (tgt := 60) hx hb dL_law_53 (by decide) (fun c_54 => ?_) (fun c_54 => ?_)
      · replace h := h.1 c_54
        refine lv_iload hx hb dL_law_60 (lv_at hl 1 rfl) ?_
        refine lv_iconst (v := 3) hx hb dL_law_62 (by decide) ?_
        refine lv_ishr hx hb dL_law_63 ?_
        refine lv_bipush (v := 15) hx hb dL_law_64 (by decide) ?_
        refine zc_i (va_runS (As := [.int (r50 >>> (3 &&& 31)), .int 15]) (rest := []) ⟨hx, hb, hml, hown, hts⟩ (cL_low_ok l hlt D S0 g k53 (r50 >>> (3 &&& 31)) 15 _ h) (va_cwS 2 hts gL_law_L_low rfl rfl rfl (by decide +kernel) ⟨Nat.le_of_ble_eq_true rfl, Nat.le_of_ble_eq_true rfl⟩) (zpreS hE hs hW) rfl rfl hl.1 rfl (lv_room (Nat.le_of_ble_eq_true rfl)) dL_law_66 ⟨by show _ ≤ 653899; omega, by show _ ≤ 7139484; omega⟩) hW (fun r55 k56 H locs h hW => ?_)
        replace hW := xW_start hW
        refine W.widen (k := n) (n := 8 * (n)) (by omega) (by omega) ?_
        refine lv_istore (lv' := [(7, .int r55), (6, .int r52), (5, .int r50), (0, .ref b), (1, .ref S0), (2, .ref ah), (3, .ref aq), (4, .int x4)]) hx hb dL_law_69 hl (by decide) rfl (fun ls hl => ?_)
        exact tL_law_71 l hlt D S0 ah aq hne hx hb hr hml hown hts hX hbl hbS hlocks hS0 hE (wL_law_21 S0 L xs f) ih x4 r50 r52 r55 f2_ f3_ n k56 g _ _ _ h hah haq hW (lv_sub hl [3, 4, 5, 6, 7, 2, 1, 0] rfl)
      · replace h := h.2 c_54
        refine lv_iconst (v := 0) hx hb dL_law_56 (by decide) ?_
        refine lv_goto (tgt := 69) hx hb dL_law_57 (by decide) ?_
        refine lv_istore (lv' := [(7, .int 0), (6, .int r52), (5, .int r50), (0, .ref b), (1, .ref S0), (2, .ref ah), (3, .ref aq), (4, .int x4)]) hx hb dL_law_69 hl (by decide) rfl (fun ls hl => ?_)
        exact tL_law_71 l hlt D S0 ah aq hne hx hb hr hml hown hts hX hbl hbS hlocks hS0 hE (wL_law_21 S0 L xs f) ih x4 r50 r52 0 f2_ f3_ n k53 g _ _ _ h hah haq hW (lv_sub hl [3, 4, 5, 6, 7, 2, 1, 0] rfl)
