/-! THE START: the law's first instructions -/
def kZ : kS := (fun _ _ => 0, fun _ _ => none, fun _ => 0)
def mZ0 : mS := fun _ _ => 0
def rZ : Nat → Int32 := fun _ => 0
theorem rel_0 : Rel 0 kZ mZ0 := by
  refine ⟨0, 0, 0, 0, fun _ => 0, fun _ => 0, [], [], ⟨⟨rfl, rfl, by omega⟩, ⟨rfl, rfl, by omega⟩, ⟨rfl, rfl, by omega⟩, ⟨fun i hi => by omega, fun i _ _ => ⟨rfl, rfl⟩⟩, ⟨fun i hi => by omega, fun i _ _ => ⟨rfl, rfl, rfl, rfl⟩, fun i j hi => by omega⟩, ⟨fun a b _ _ => (show (0 : Int32) - 0 = 0 by decide), fun j _ => ?_, fun h _ => rfl, fun h _ => rfl⟩, ⟨rfl, by decide, fun j _ => rfl⟩, ⟨rfl, by decide, fun j a h => (by cases h), fun a h => (by cases h), List.Pairwise.nil, List.nodup_nil⟩⟩, ⟨List.Pairwise.nil, fun v _ => rfl, rfl, fun a h => (by cases h)⟩, Nat.le_refl _, by omega, by omega, Nat.zero_le _⟩
  have : (mZ0 20 j).toInt = 0 := rfl
  rw [this]
  omega

theorem ls_0 : LSt 0 kZ mZ0 0 0 rZ rZ := by
  refine ⟨rel_0, rfl, rfl, by omega, by omega, ⟨⟨fun i hi => by omega, fun i i' hi => by omega, fun j hj => by omega⟩, fun j hj => by omega, fun h hh => Or.inl rfl, fun i hi => by omega, ?_⟩, rfl, rfl, fun j hj => by omega, fun i hi => by omega⟩
  exact Nat.le_of_eq rfl
def gL0 (D : zD) (S0 : Nat) : zF := fun q => if q = S0 + 9 then (some (.inl (D.2.1, 41, .inl (fun _ => 0)))) else if q = S0 + 10 then (some (.inl (D.2.1, 41, .inl (fun _ => 0)))) else none
def gZ (D : zD) (S0 : Nat) : zF := (va_up (va_up (gI5 D (va_up (fun _ => none) S0 (some (.inr (5, [.null, .null, .null, .null, .int 0, .int 0, .int 0])))) S0 (S0 + 1)) (S0 + 9) (some (.inl (D.2.1, 41, .inl (fun _ => 0))))) (S0 + 10) (some (.inl (D.2.1, 41, .inl (fun _ => 0)))))
theorem gL0_h (D : zD) (S0 : Nat) : gA D S0 (gL0 D S0) (S0 + 9) 41 rZ := ⟨Nat.le_refl _, if_pos rfl⟩
theorem gL0_q (D : zD) (S0 : Nat) : gA D S0 (gL0 D S0) (S0 + 10) 41 rZ := ⟨by omega, by
  unfold gL0
  rw [if_neg (by omega), if_pos rfl]
  rfl⟩
theorem hin_law_5 : ∀ w ∈ u_ws RX5 TX5 7, w ∈ wsL_law := by decide +kernel
set_option maxHeartbeats 40000000 in
set_option maxRecDepth 100000 in
theorem law_start {p : Program} {e : Env} {s : State} {m : MethodId} {below : List Frame} {meth : Method} {c : Code} (l : Launch) (hlt : l.stackTraces = false) {b L S0 : Nat} {xs : Nat → Int32} {D : zD} (hL : L ≤ 260) (hx : p.tables.exec = Jvm.exec) (hb : c.code = code) (hr : meth.sig.returnType = ret) (hml : c.maxLocals = 12) (hown : s.vm.findClass R_law = some m.cls) (hts : ∀ w ∈ wsL_law, w.before #[Value.ref b] s = true) (hX : va_X b L xs s s.heap) (hbl : b < s.heap.size) (hlocks : meth.locks = false) (hS0 : S0 = s.heap.size) (hE : zE2 D S0 s) (hG : gZ D S0 = xF D S0 (gL0 D S0) kZ) : W p l e room_1 s m #[Value.ref b] below meth c s.heap [] 0 0 (lw_Z below #[Value.ref b] s) (entryFrame m ([Value.ref b] : List Value).toArray 12) := by
  have hs0 : S0 ≤ s.heap.size := Nat.le_of_eq hS0
  have hW : zW D S0 (eR S0 (fun _ => none)) s.heap s.heap [] := ⟨fun _ => none, fun q e h => (nomatch h), fun q e h => (nomatch h), va_S.rf, hS0.symm, rfl⟩
  rw [lg_entry_eq]
  have hl : lv_has ((lg_sl [Value.ref b] ++ List.replicate (12 - (lg_sl [Value.ref b]).length) Slot.unset).toArray) 12 (lv_args 0 [Value.ref b]) := lv_entry [Value.ref b] (Nat.le_of_ble_eq_true rfl)
  generalize ((lg_sl [Value.ref b] ++ List.replicate (12 - (lg_sl [Value.ref b]).length) Slot.unset).toArray) = ls at hl ⊢
  replace hl : lv_has ls 12 [(0, .ref b)] := hl
  refine zw_new (ci := 5) (C := RX5) (T := TX5) (N := 7) (fs := [.null, .null, .null, .null, .int 0, .int 0, .int 0]) hx hb hts hin_law_5 tyX5 tyX5_ok hown (hts (.classLink RL 10 RX5) (by decide +kernel)) (hts (.instantiable RX5 7) (by decide +kernel)) (hts (.initialized RX5) (by decide +kernel)) hE.1.1 hW hs0 rfl (fun j hj => by rcases (show j = 0 ∨ j = 1 ∨ j = 2 ∨ j = 3 ∨ j = 4 ∨ j = 5 ∨ j = 6 by omega) with rfl | rfl | rfl | rfl | rfl | rfl | rfl <;> rfl) (by show _ ≤ 653899; omega) (by show _ ≤ 7139484; omega) dL_law_0 (fun q0 H0 hA0 _ => ?_)
  obtain ⟨eq0, -, hB0⟩ := e_new hA0
  subst eq0
  refine lv_dup hx hb dL_law_3 rfl ?_
  refine zc_v (va_runI (As := []) (rest := [.ref S0]) ⟨hx, hb, hml, hown, hts⟩ (cX5_init_ok l hlt D S0 S0 (S0 + 1) _ (fun x hx => by omega) (va_up_self _ _ _)) (cwI 0 hts gL_law_X5_init rfl rfl rfl (hts (.initialized RX5) (by decide +kernel)) (hts (.methodLink RL 125 yX5_init) (by decide +kernel)) (hts (.instanceMethod yX5_init) (by decide +kernel)) rfl (by decide +kernel) ⟨Nat.le_of_ble_eq_true rfl, Nat.le_of_ble_eq_true rfl⟩) (zpreS2 hE hs0 hB0) rfl rfl hl.1 rfl (lv_room (Nat.le_of_ble_eq_true rfl)) dL_law_4 ⟨by show _ ≤ 653899; omega, by show _ ≤ 7139484; omega⟩) hB0 (fun u1 H1 locs1 eu1 hB1 => ?_)
  subst eu1
  replace hB1 : zW D S0 (eR (S0 + 9) (gI5 D (va_up (fun _ => none) S0 (some (.inr (5, [.null, .null, .null, .null, .int 0, .int 0, .int 0])))) S0 (S0 + 1))) s.heap H1 locs1 := hB1
  refine lv_astore_n (lv' := [(1, .ref S0), (0, .ref b)]) hx hb dL_law_7 rfl hl (by decide) rfl (fun ls hl => ?_)
  refine lv_bipush (v := 41) hx hb dL_law_8 (by decide) ?_
  refine zw_newi (N' := 41) hx hb (hts (.arrayClass .int) (by decide +kernel)) hE.1.1 hB1 hs0 (by decide) (by decide) (Nat.le_of_ble_eq_true rfl) (by show _ ≤ 653899; omega) (by show _ ≤ 7139484; omega) dL_law_10 (fun q2 H2 hA2 _ => ?_)
  obtain ⟨eq2, -, hB2⟩ := e_new hA2
  subst eq2
  replace hB2 : zW D S0 (eR (S0 + 10) (va_up (gI5 D (va_up (fun _ => none) S0 (some (.inr (5, [.null, .null, .null, .null, .int 0, .int 0, .int 0])))) S0 (S0 + 1)) (S0 + 9) (some (.inl (D.2.1, 41, .inl (fun _ => 0)))))) s.heap H2 locs1 := hB2
  refine lv_astore_n (lv' := [(2, .ref (S0 + 9)), (1, .ref S0), (0, .ref b)]) hx hb dL_law_12 rfl hl (by decide) rfl (fun ls hl => ?_)
  refine lv_bipush (v := 41) hx hb dL_law_13 (by decide) ?_
  refine zw_newi (N' := 41) hx hb (hts (.arrayClass .int) (by decide +kernel)) hE.1.1 hB2 hs0 (by decide) (by decide) (Nat.le_of_ble_eq_true rfl) (by show _ ≤ 653899; omega) (by show _ ≤ 7139484; omega) dL_law_15 (fun q3 H3 hA3 _ => ?_)
  obtain ⟨eq3, -, hB3⟩ := e_new hA3
  subst eq3
  refine lv_astore_n (lv' := [(3, .ref (S0 + 10)), (2, .ref (S0 + 9)), (1, .ref S0), (0, .ref b)]) hx hb dL_law_17 rfl hl (by decide) rfl (fun ls hl => ?_)
  refine lv_iconst (v := 0) hx hb dL_law_18 (by decide) ?_
  refine lv_istore (lv' := [(4, .int 0), (3, .ref (S0 + 10)), (2, .ref (S0 + 9)), (1, .ref S0), (0, .ref b)]) hx hb dL_law_19 hl (by decide) rfl (fun ls hl => ?_)
  refine W.widen (k := 2000) (n := 8 * 2000) (by omega) (by omega) ?_
  have hB5 : zW D S0 (xR D S0 (gL0 D S0) kZ kZ) s.heap H3 locs1 := by
    refine hB3.mono (fun n f h => ⟨?_, ?_, ⟨fun i c h => (nomatch h), fun i c h => (nomatch h), fun i c h => (nomatch h), fun r c h => (nomatch h), fun r c h => (nomatch h), fun r c h => (nomatch h)⟩, fun q h => absurd rfl h, kle_rf _⟩)
    · rw [h.2]
      exact hG
    · rw [h.1]
      omega
  exact tL_law_21 l hlt D S0 (S0 + 9) (S0 + 10) (by omega) hx hb hr hml hown hts hX hbl (by omega) hlocks hS0 hE.1 61 0 rZ rZ 2000 kZ (gL0 D S0) H3 locs1 ls (law_all hL 60 0 0 2000 kZ mZ0 0 0 rZ rZ rfl (by omega) (by omega) ls_0) (gL0_h D S0) (gL0_q D S0) hB5 (lv_sub hl [4, 3, 2, 1, 0] rfl)

