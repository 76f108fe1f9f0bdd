/-! THE LAW'S BODY. Its world: lR k m o -/
abbrev gN : zF := fun _ => none
def lG (D : zD) (S0 : Nat) (m : mS) (o : Nat → Int64) : zF := mF D S0 (oF D S0 gN o) m
abbrev lR (D : zD) (S0 : Nat) (k : kS) (m : mS) (o : Nat → Int64) : Nat → zF → Prop := xR D S0 (lG D S0 m o) k k
section LW
variable {D : zD} {S0 : Nat} {k k1 : kS} {m m1 : mS} {o o1 : Nat → Int64}
theorem lo_eq (m : mS) (o : Nat → Int64) (k : kS) : xF D S0 (oF D S0 (lG D S0 m (fun _ => 0)) o) k = xF D S0 (lG D S0 m o) k := by
  funext q
  by_cases h1 : S0 + 9 ≤ q ∧ q < S0 + 30
  · by_cases h2 : q = S0 + 29
    · simp [xF, oF, lG, mF, h2]
    · have h3 : q < S0 + 29 := by omega
      simp [xF, oF, lG, mF, h1, h2, h3]
  · simp [xF, h1]
theorem lo_in (n : Nat) (f : zF) (h : lR D S0 k m o n f) : xR D S0 (oF D S0 (lG D S0 m (fun _ => 0)) o) k k n f := ⟨by rw [lo_eq]; exact h.1, h.2⟩
theorem lo_out (n : Nat) (f : zF) (h : xR D S0 (oF D S0 (lG D S0 m (fun _ => 0)) o) k k1 n f) : lR D S0 k1 m o n f := ⟨by rw [← lo_eq]; exact h.1, h.2.1, h.2.2.1, h.2.2.2.1, kle_rf _⟩
theorem lm_eq : mF D S0 (xF D S0 (lG D S0 m o) k) m1 = xF D S0 (lG D S0 m1 o) k := by
  funext q
  by_cases h1 : S0 + 9 ≤ q ∧ q < S0 + 29
  · have h3 : q < S0 + 30 := by omega
    simp [xF, lG, mF, h1, h3]
  · by_cases h2 : q = S0 + 29
    · simp [xF, oF, lG, mF, h2]
    · have h4 : ¬ (S0 + 9 ≤ q ∧ q < S0 + 30) := by omega
      simp [xF, mF, h1, h4]
theorem lm_in (n : Nat) (f : zF) (h : lR D S0 k m o n f) : mR D S0 (xF D S0 (lG D S0 m o) k) m n f := ⟨by rw [lm_eq]; exact h.1, by have := h.2.1; omega⟩
theorem lm_out {H0 H H1 : Heap} {locs locs1 : List Loc} (h0 : zW D S0 (lR D S0 k m o) H0 H locs) (h : zW D S0 (mR D S0 (xF D S0 (lG D S0 m o) k) m1) H0 H1 locs1) (hz : H.size ≤ H1.size) : zW D S0 (lR D S0 k m1 o) H0 H1 locs1 := by
  obtain ⟨f0, -, -, -, q0⟩ := h0
  obtain ⟨f, h1, h2, h3, h4⟩ := h
  refine ⟨f, h1, h2, h3, ?_, Nat.le_trans q0.2.1 hz, q0.2.2.1, q0.2.2.2.1, kle_rf _⟩
  rw [h4.1, lm_eq]
theorem lo_C (n : Nat) (f : zF) (h : lR D S0 k m o n f) : f (S0 + 29) = some (.inl (D.2.2.2.2.2, 1, .inr (.inl o))) := by
  rw [h.1]
  simp [xF, lG, mF, oF]
end LW
section LS
variable {p : Program} {l : Launch} {e : Env} {R : Room} {s : State} {m : MethodId} {args : Array Value} {below : List Frame} {meth : Method} {c : Code} {H : Heap} {locs : List Loc} {cells slots : Nat} {Q : State → Prop}
variable {cc : ByteArray} {pc : Nat} {ls : Array Slot} {rest st0 : List Value} {D : zD} {S0 : Nat} {Rep : Nat → zF → Prop} {a : Array Value} {mc ms : Nat} {b L : Nat} {xs : Nat → Int32}
theorem zw_sld (hx : p.tables.exec = Jvm.exec) (hb : c.code = cc) (hX : va_X b L xs s s.heap) (hbl : b < s.heap.size) (hS0 : S0 = s.heap.size) (hW : zW D S0 Rep s.heap H locs) {i : Int32} (hin : vp_in i L) (hdg : decode cc pc = .ok (.iaload, 1))
    (kk : W p l e R s m args below meth c H locs cells slots Q (F0 m (pc + 1) ls (.int (xs i.toNatClampNeg) :: rest))) : W p l e R s m args below meth c H locs cells slots Q (F0 m pc ls (.int i :: .ref b :: rest)) := by
  obtain ⟨f, -, -, hS, -⟩ := hW
  exact va_sld hx hb hX hbl (A := zA S0) (by rw [hS0]; exact Nat.not_le.mpr hbl) hS hin hdg kk
theorem zw_slen (hx : p.tables.exec = Jvm.exec) (hb : c.code = cc) (hX : va_X b L xs s s.heap) (hbl : b < s.heap.size) (hS0 : S0 = s.heap.size) (hW : zW D S0 Rep s.heap H locs) (hdg : decode cc pc = .ok (.arraylength, 1))
    (kk : W p l e R s m args below meth c H locs cells slots Q (F0 m (pc + 1) ls (.int (Int32.ofNat L) :: rest))) : W p l e R s m args below meth c H locs cells slots Q (F0 m pc ls (.ref b :: rest)) := by
  obtain ⟨f, -, -, hS, -⟩ := hW
  exact va_slen hx hb hX hbl (A := zA S0) (by rw [hS0]; exact Nat.not_le.mpr hbl) hS hdg kk
theorem zs_i {S : Type} {RepS : S → Nat → zF → Prop} {post : Int32 → S → Prop} (hr : va_Run p l e R s m args below meth c H locs cells slots mc ms (F0 m pc ls st0) rest (va_Qi post (zB D S0 RepS) (zA S0) a) (zA S0)) (hW : zW D S0 Rep s.heap H locs)
    (kk : ∀ (r : Int32) (u : S) (H1 : Heap) (locs1 : List Loc), H.size ≤ H1.size → post r u → zW D S0 (RepS u) s.heap H1 locs1 → W p l e R s m args below meth c H1 locs1 (cells + mc) (slots + ms) Q (F0 m (pc + 3) ls (.int r :: rest))) : W p l e R s m args below meth c H locs cells slots Q (F0 m pc ls st0) := by
  obtain ⟨f, hP, hd, hS, hR⟩ := hW
  refine va_calli hr hS (fun _ _ h => h) (fun _ h => h) (fun r u t H1 locs1 ht _ hp hB hz _ hS1 => ?_)
  obtain ⟨f1, h1, h2, h3⟩ := hB
  rw [ht] at h1 h3
  exact kk r u H1 locs1 hz hp ⟨f1, h1, h2, hS1, h3⟩
theorem zs_v {S : Type} {RepS : S → Nat → zF → Prop} {post : S → Prop} (hr : va_Run p l e R s m args below meth c H locs cells slots mc ms (F0 m pc ls st0) rest (va_Qv post (zB D S0 RepS) (zA S0) a) (zA S0)) (hW : zW D S0 Rep s.heap H locs)
    (kk : ∀ (u : S) (H1 : Heap) (locs1 : List Loc), H.size ≤ H1.size → post u → zW D S0 (RepS u) s.heap H1 locs1 → W p l e R s m args below meth c H1 locs1 (cells + mc) (slots + ms) Q (F0 m (pc + 3) ls rest)) : W p l e R s m args below meth c H locs cells slots Q (F0 m pc ls st0) := by
  obtain ⟨f, hP, hd, hS, hR⟩ := hW
  refine va_callv hr hS (fun _ _ h => h) (fun _ h => h) (fun u t H1 locs1 ht _ hp hB hz _ hS1 => ?_)
  obtain ⟨f1, h1, h2, h3⟩ := hB
  rw [ht] at h1 h3
  exact kk u H1 locs1 hz hp ⟨f1, h1, h2, hS1, h3⟩
end LS

def wL_case0 (N : Int32 → Nat → kS → mS → (Nat → Int64) → Prop) (S0 L : Nat) (xs : Nat → Int32) (i : Int32) (n : Nat) (k : kS) (m : mS) (o : Nat → Int64) : Prop := (vp_in (i + 1) L ∧ (vp_in (i + 2) L ∧ (n + 2 ≤ 310000 ∧ (wL_addCopy S0 k o (xs (i + 1).toNatClampNeg) (xs (i + 2).toNatClampNeg) (fun r6 u7 => (vp_in (i + 1) L ∧ (vp_in (i + 2) L ∧ (wX6_addCopy m (xs (i + 1).toNatClampNeg) (xs (i + 2).toNatClampNeg) (fun r13 m14 => (wX6_thrown m14 (fun r15 m16 => ((r15 = r6 → ((r6 = 0 → (((lg_cmp (u7.2 (0 : Int32).toNatClampNeg) r13.toInt64) = 0 → (N (i + 3) (n + 2) u7.1 m16 u7.2)) ∧ (¬ (lg_cmp (u7.2 (0 : Int32).toNatClampNeg) r13.toInt64) = 0 → False))) ∧ (¬ r6 = 0 → (N (i + 3) (n + 2) u7.1 m16 u7.2)))) ∧ (¬ r15 = r6 → False)))))))))))))
def wL_case1 (N : Int32 → Nat → kS → mS → (Nat → Int64) → Prop) (S0 L : Nat) (xs : Nat → Int32) (i : Int32) (n : Nat) (k : kS) (m : mS) (o : Nat → Int64) : Prop := (vp_in (i + 1) L ∧ (n + 1 ≤ 310000 ∧ (wL_inHandsOf S0 k o (xs (i + 1).toNatClampNeg) (fun r22 u23 => (vp_in (i + 1) L ∧ (wX6_inHandsOf m (xs (i + 1).toNatClampNeg) (fun r28 m29 => (wX6_thrown m29 (fun r30 m31 => ((r30 = r22 → ((r22 = 0 → (((lg_cmp (u23.2 (0 : Int32).toNatClampNeg) r28.toInt64) = 0 → (N (i + 3) (n + 1) u23.1 m31 u23.2)) ∧ (¬ (lg_cmp (u23.2 (0 : Int32).toNatClampNeg) r28.toInt64) = 0 → False))) ∧ (¬ r22 = 0 → (N (i + 3) (n + 1) u23.1 m31 u23.2)))) ∧ (¬ r30 = r22 → False)))))))))))
def wL_case2 (N : Int32 → Nat → kS → mS → (Nat → Int64) → Prop) (S0 L : Nat) (xs : Nat → Int32) (i : Int32) (n : Nat) (k : kS) (m : mS) (o : Nat → Int64) : Prop := (vp_in (i + 1) L ∧ (n + 1 ≤ 310000 ∧ (wL_isFree S0 k o (xs (i + 1).toNatClampNeg) (fun r37 u38 => (vp_in (i + 1) L ∧ (wX6_isFree m (xs (i + 1).toNatClampNeg) (fun r43 m44 => (wX6_thrown m44 (fun r45 m46 => ((r45 = r37 → ((r37 = 0 → ((r43 = 0 → (((lg_cmp (u38.2 (0 : Int32).toNatClampNeg) (0 : Int64)) = 0 → (N (i + 3) (n + 1) u38.1 m46 u38.2)) ∧ (¬ (lg_cmp (u38.2 (0 : Int32).toNatClampNeg) (0 : Int64)) = 0 → False))) ∧ (¬ r43 = 0 → (((lg_cmp (u38.2 (0 : Int32).toNatClampNeg) (1 : Int64)) = 0 → (N (i + 3) (n + 1) u38.1 m46 u38.2)) ∧ (¬ (lg_cmp (u38.2 (0 : Int32).toNatClampNeg) (1 : Int64)) = 0 → False))))) ∧ (¬ r37 = 0 → (N (i + 3) (n + 1) u38.1 m46 u38.2)))) ∧ (¬ r45 = r37 → False)))))))))))
def wL_case3 (N : Int32 → Nat → kS → mS → (Nat → Int64) → Prop) (S0 L : Nat) (xs : Nat → Int32) (i : Int32) (n : Nat) (k : kS) (m : mS) (o : Nat → Int64) : Prop := (vp_in (i + 1) L ∧ (n + 1 ≤ 310000 ∧ (wL_listed S0 k o (xs (i + 1).toNatClampNeg) (fun r54 u55 => (vp_in (i + 1) L ∧ (wX6_listed m (xs (i + 1).toNatClampNeg) (fun r60 m61 => (wX6_thrown m61 (fun r62 m63 => ((r62 = r54 → ((r54 = 0 → (((lg_cmp (u55.2 (0 : Int32).toNatClampNeg) r60.toInt64) = 0 → (N (i + 3) (n + 1) u55.1 m63 u55.2)) ∧ (¬ (lg_cmp (u55.2 (0 : Int32).toNatClampNeg) r60.toInt64) = 0 → False))) ∧ (¬ r54 = 0 → (N (i + 3) (n + 1) u55.1 m63 u55.2)))) ∧ (¬ r62 = r54 → False)))))))))))
def wL_case4 (N : Int32 → Nat → kS → mS → (Nat → Int64) → Prop) (S0 L : Nat) (xs : Nat → Int32) (i : Int32) (n : Nat) (k : kS) (m : mS) (o : Nat → Int64) : Prop := (vp_in (i + 1) L ∧ (n + 2 ≤ 310000 ∧ (wL_harm S0 k o (xs (i + 1).toNatClampNeg) (fun r69 u70 => (vp_in (i + 1) L ∧ (wX6_harm m (xs (i + 1).toNatClampNeg) (fun r75 m76 => (wX6_thrown m76 (fun r77 m78 => ((r77 = r69 → ((r69 = 0 → (((lg_cmp (u70.2 (0 : Int32).toNatClampNeg) r75.toInt64) = 0 → (N (i + 3) (n + 2) u70.1 m78 u70.2)) ∧ (¬ (lg_cmp (u70.2 (0 : Int32).toNatClampNeg) r75.toInt64) = 0 → False))) ∧ (¬ r69 = 0 → (N (i + 3) (n + 2) u70.1 m78 u70.2)))) ∧ (¬ r77 = r69 → False)))))))))))
def wL_case5 (N : Int32 → Nat → kS → mS → (Nat → Int64) → Prop) (S0 L : Nat) (xs : Nat → Int32) (i : Int32) (n : Nat) (k : kS) (m : mS) (o : Nat → Int64) : Prop := (vp_in (i + 1) L ∧ (n + 2 ≤ 310000 ∧ (wL_look S0 k o (xs (i + 1).toNatClampNeg) (fun r84 u85 => (vp_in (i + 1) L ∧ (wX6_look m (xs (i + 1).toNatClampNeg) (fun r90 m91 => (wX6_thrown m91 (fun r92 m93 => ((r92 = r84 → ((r84 = 0 → (((lg_cmp (u85.2 (0 : Int32).toNatClampNeg) r90.toInt64) = 0 → (N (i + 3) (n + 2) u85.1 m93 u85.2)) ∧ (¬ (lg_cmp (u85.2 (0 : Int32).toNatClampNeg) r90.toInt64) = 0 → False))) ∧ (¬ r84 = 0 → (N (i + 3) (n + 2) u85.1 m93 u85.2)))) ∧ (¬ r92 = r84 → False)))))))))))
def wL_case6 (N : Int32 → Nat → kS → mS → (Nat → Int64) → Prop) (S0 L : Nat) (xs : Nat → Int32) (i : Int32) (n : Nat) (k : kS) (m : mS) (o : Nat → Int64) : Prop := (vp_in (i + 1) L ∧ (n + 2 ≤ 310000 ∧ (wL_mend S0 k o (xs (i + 1).toNatClampNeg) (fun r99 u100 => (vp_in (i + 1) L ∧ (wX6_mend m (xs (i + 1).toNatClampNeg) (fun m106 => (wX6_thrown m106 (fun r107 m108 => ((r107 = r99 → (N (i + 3) (n + 2) u100.1 m108 u100.2)) ∧ (¬ r107 = r99 → False)))))))))))
def wL_case7 (N : Int32 → Nat → kS → mS → (Nat → Int64) → Prop) (S0 L : Nat) (xs : Nat → Int32) (i : Int32) (n : Nat) (k : kS) (m : mS) (o : Nat → Int64) : Prop := (vp_in (i + 1) L ∧ (vp_in (i + 2) L ∧ (n + 2 ≤ 310000 ∧ (wL_request S0 k o (xs (i + 1).toNatClampNeg) (xs (i + 2).toNatClampNeg) (fun r113 u114 => (vp_in (i + 1) L ∧ (vp_in (i + 2) L ∧ (wX6_request m (xs (i + 1).toNatClampNeg) (xs (i + 2).toNatClampNeg) (fun r120 m121 => (wX6_thrown m121 (fun r122 m123 => ((r122 = r113 → ((r113 = 0 → (((lg_cmp (u114.2 (0 : Int32).toNatClampNeg) r120.toInt64) = 0 → (N (i + 3) (n + 2) u114.1 m123 u114.2)) ∧ (¬ (lg_cmp (u114.2 (0 : Int32).toNatClampNeg) r120.toInt64) = 0 → False))) ∧ (¬ r113 = 0 → (N (i + 3) (n + 2) u114.1 m123 u114.2)))) ∧ (¬ r122 = r113 → False)))))))))))))
def wL_case8 (N : Int32 → Nat → kS → mS → (Nat → Int64) → Prop) (S0 L : Nat) (xs : Nat → Int32) (i : Int32) (n : Nat) (k : kS) (m : mS) (o : Nat → Int64) : Prop := (vp_in (i + 1) L ∧ (n + 1 ≤ 310000 ∧ (wL_state S0 k o (xs (i + 1).toNatClampNeg) (fun r129 u130 => (vp_in (i + 1) L ∧ (wX6_state m (xs (i + 1).toNatClampNeg) (fun r135 m136 => (wX6_thrown m136 (fun r137 m138 => ((r137 = r129 → ((r129 = 0 → (((lg_cmp (u130.2 (0 : Int32).toNatClampNeg) r135.toInt64) = 0 → (N (i + 3) (n + 1) u130.1 m138 u130.2)) ∧ (¬ (lg_cmp (u130.2 (0 : Int32).toNatClampNeg) r135.toInt64) = 0 → False))) ∧ (¬ r129 = 0 → (N (i + 3) (n + 1) u130.1 m138 u130.2)))) ∧ (¬ r137 = r129 → False)))))))))))
def wL_case9 (N : Int32 → Nat → kS → mS → (Nat → Int64) → Prop) (S0 L : Nat) (xs : Nat → Int32) (i : Int32) (n : Nat) (k : kS) (m : mS) (o : Nat → Int64) : Prop := (vp_in (i + 1) L ∧ (n + 1 ≤ 310000 ∧ (wL_copyOf S0 k o (xs (i + 1).toNatClampNeg) (fun r144 u145 => (vp_in (i + 1) L ∧ (wX6_copyOf m (xs (i + 1).toNatClampNeg) (fun r150 m151 => (wX6_thrown m151 (fun r152 m153 => ((r152 = r144 → ((r144 = 0 → (((lg_cmp (u145.2 (0 : Int32).toNatClampNeg) r150.toInt64) = 0 → (N (i + 3) (n + 1) u145.1 m153 u145.2)) ∧ (¬ (lg_cmp (u145.2 (0 : Int32).toNatClampNeg) r150.toInt64) = 0 → False))) ∧ (¬ r144 = 0 → (N (i + 3) (n + 1) u145.1 m153 u145.2)))) ∧ (¬ r152 = r144 → False)))))))))))
def wL_case10 (N : Int32 → Nat → kS → mS → (Nat → Int64) → Prop) (S0 L : Nat) (xs : Nat → Int32) (i : Int32) (n : Nat) (k : kS) (m : mS) (o : Nat → Int64) : Prop := (vp_in (i + 1) L ∧ (n + 2 ≤ 310000 ∧ (wL_due S0 k o (xs (i + 1).toNatClampNeg) (fun r159 u160 => (vp_in (i + 1) L ∧ (wX6_due m (xs (i + 1).toNatClampNeg) (fun r165 m166 => (wX6_thrown m166 (fun r167 m168 => ((r167 = r159 → ((r159 = 0 → (((lg_cmp (u160.2 (0 : Int32).toNatClampNeg) r165.toInt64) = 0 → (N (i + 3) (n + 2) u160.1 m168 u160.2)) ∧ (¬ (lg_cmp (u160.2 (0 : Int32).toNatClampNeg) r165.toInt64) = 0 → False))) ∧ (¬ r159 = 0 → (N (i + 3) (n + 2) u160.1 m168 u160.2)))) ∧ (¬ r167 = r159 → False)))))))))))
def wL_case11 (N : Int32 → Nat → kS → mS → (Nat → Int64) → Prop) (S0 L : Nat) (xs : Nat → Int32) (i : Int32) (n : Nat) (k : kS) (m : mS) (o : Nat → Int64) : Prop := (vp_in (i + 1) L ∧ (n + 2 ≤ 310000 ∧ (wL_renew S0 k o (xs (i + 1).toNatClampNeg) (fun r174 u175 => (vp_in (i + 1) L ∧ (wX6_renew m (xs (i + 1).toNatClampNeg) (fun r180 m181 => (wX6_thrown m181 (fun r182 m183 => ((r182 = r174 → ((r174 = 0 → (((lg_cmp (u175.2 (0 : Int32).toNatClampNeg) r180.toInt64) = 0 → (N (i + 3) (n + 2) u175.1 m183 u175.2)) ∧ (¬ (lg_cmp (u175.2 (0 : Int32).toNatClampNeg) r180.toInt64) = 0 → False))) ∧ (¬ r174 = 0 → (N (i + 3) (n + 2) u175.1 m183 u175.2)))) ∧ (¬ r182 = r174 → False)))))))))))
def wL_case12 (N : Int32 → Nat → kS → mS → (Nat → Int64) → Prop) (S0 L : Nat) (xs : Nat → Int32) (i : Int32) (n : Nat) (k : kS) (m : mS) (o : Nat → Int64) : Prop := (vp_in (i + 1) L ∧ (n + 2 ≤ 310000 ∧ (wL_recall S0 k o (xs (i + 1).toNatClampNeg) (fun r189 u190 => (vp_in (i + 1) L ∧ (wX6_recall m (xs (i + 1).toNatClampNeg) (fun r195 m196 => (wX6_thrown m196 (fun r197 m198 => ((r197 = r189 → ((r189 = 0 → (((lg_cmp (u190.2 (0 : Int32).toNatClampNeg) r195.toInt64) = 0 → (N (i + 3) (n + 2) u190.1 m198 u190.2)) ∧ (¬ (lg_cmp (u190.2 (0 : Int32).toNatClampNeg) r195.toInt64) = 0 → False))) ∧ (¬ r189 = 0 → (N (i + 3) (n + 2) u190.1 m198 u190.2)))) ∧ (¬ r197 = r189 → False)))))))))))
def wL_case13 (N : Int32 → Nat → kS → mS → (Nat → Int64) → Prop) (S0 L : Nat) (xs : Nat → Int32) (i : Int32) (n : Nat) (k : kS) (m : mS) (o : Nat → Int64) : Prop := (vp_in (i + 1) L ∧ (n + 2 ≤ 310000 ∧ (wL_sendBack S0 k o (xs (i + 1).toNatClampNeg) (fun r204 u205 => (vp_in (i + 1) L ∧ (wX6_sendBack m (xs (i + 1).toNatClampNeg) (fun r210 m211 => (wX6_thrown m211 (fun r212 m213 => ((r212 = r204 → ((r204 = 0 → (((lg_cmp (u205.2 (0 : Int32).toNatClampNeg) r210.toInt64) = 0 → (N (i + 3) (n + 2) u205.1 m213 u205.2)) ∧ (¬ (lg_cmp (u205.2 (0 : Int32).toNatClampNeg) r210.toInt64) = 0 → False))) ∧ (¬ r204 = 0 → (N (i + 3) (n + 2) u205.1 m213 u205.2)))) ∧ (¬ r212 = r204 → False)))))))))))
def wL_case14 (N : Int32 → Nat → kS → mS → (Nat → Int64) → Prop) (S0 L : Nat) (xs : Nat → Int32) (i : Int32) (n : Nat) (k : kS) (m : mS) (o : Nat → Int64) : Prop := (vp_in (i + 1) L ∧ (n + 601 ≤ 310000 ∧ (wL_pass S0 k o (xs (i + 1).toNatClampNeg) (fun r219 u220 => (vp_in (i + 1) L ∧ (wX6_pass m (xs (i + 1).toNatClampNeg) (fun r225 m226 => (wX6_thrown m226 (fun r227 m228 => ((r227 = r219 → ((r219 = 0 → (((lg_cmp (u220.2 (0 : Int32).toNatClampNeg) r225.toInt64) = 0 → (N (i + 3) (n + 601) u220.1 m228 u220.2)) ∧ (¬ (lg_cmp (u220.2 (0 : Int32).toNatClampNeg) r225.toInt64) = 0 → False))) ∧ (¬ r219 = 0 → (N (i + 3) (n + 601) u220.1 m228 u220.2)))) ∧ (¬ r227 = r219 → False)))))))))))
def wL_case15 (N : Int32 → Nat → kS → mS → (Nat → Int64) → Prop) (S0 L : Nat) (xs : Nat → Int32) (i : Int32) (n : Nat) (k : kS) (m : mS) (o : Nat → Int64) : Prop := (wX5_today S0 k (fun r233 k234 => (wX6_today m (fun r235 m236 => ((r233 = r235 → (N (i + 3) n k234 m236 o)) ∧ (¬ r233 = r235 → False))))))
def wL_case16 (N : Int32 → Nat → kS → mS → (Nat → Int64) → Prop) (S0 L : Nat) (xs : Nat → Int32) (i : Int32) (n : Nat) (k : kS) (m : mS) (o : Nat → Int64) : Prop := (vp_in (i + 1) L ∧ (vp_in (i + 2) L ∧ (n + 1 ≤ 310000 ∧ (wL_owes S0 k o (xs (i + 1).toNatClampNeg) (xs (i + 2).toNatClampNeg) (fun r241 u242 => (vp_in (i + 1) L ∧ (vp_in (i + 2) L ∧ (wX6_owes m (xs (i + 1).toNatClampNeg) (xs (i + 2).toNatClampNeg) (fun r248 m249 => (wX6_thrown m249 (fun r250 m251 => ((r250 = r241 → ((r241 = 0 → (((lg_cmp (u242.2 (0 : Int32).toNatClampNeg) r248.toInt64) = 0 → (N (i + 3) (n + 1) u242.1 m251 u242.2)) ∧ (¬ (lg_cmp (u242.2 (0 : Int32).toNatClampNeg) r248.toInt64) = 0 → False))) ∧ (¬ r241 = 0 → (N (i + 3) (n + 1) u242.1 m251 u242.2)))) ∧ (¬ r250 = r241 → False)))))))))))))
def wL_case17 (N : Int32 → Nat → kS → mS → (Nat → Int64) → Prop) (S0 L : Nat) (xs : Nat → Int32) (i : Int32) (n : Nat) (k : kS) (m : mS) (o : Nat → Int64) : Prop := (wX5_settle S0 k (fun r256 k257 => (wX6_settle m (fun r258 m259 => ((r256 = r258 → (N (i + 3) n k257 m259 o)) ∧ (¬ r256 = r258 → False))))))
def wL_case18 (N : Int32 → Nat → kS → mS → (Nat → Int64) → Prop) (S0 L : Nat) (xs : Nat → Int32) (i : Int32) (n : Nat) (k : kS) (m : mS) (o : Nat → Int64) : Prop := (vp_in (i + 1) L ∧ (n + 1 ≤ 310000 ∧ (wL_quota S0 k o (xs (i + 1).toNatClampNeg) (fun r263 u264 => (vp_in (i + 1) L ∧ (wX6_quota m (xs (i + 1).toNatClampNeg) (fun r269 m270 => (wX6_thrown m270 (fun r271 m272 => ((r271 = r263 → ((r263 = 0 → (((lg_cmp (u264.2 (0 : Int32).toNatClampNeg) r269.toInt64) = 0 → (N (i + 3) (n + 1) u264.1 m272 u264.2)) ∧ (¬ (lg_cmp (u264.2 (0 : Int32).toNatClampNeg) r269.toInt64) = 0 → False))) ∧ (¬ r263 = 0 → (N (i + 3) (n + 1) u264.1 m272 u264.2)))) ∧ (¬ r271 = r263 → False)))))))))))
def wL_loop (S0 L : Nat) (xs : Nat → Int32) : Nat → Int32 → Nat → kS → mS → (Nat → Int64) → Prop
  | 0, _, _, _, _, _ => False
  | f + 1, i, n, k, m, o => (n ≤ 310000 ∧ ((((Int32.ofNat L) - 3) < i → True) ∧ (¬ ((Int32.ofNat L) - 3) < i → (vp_in i L ∧ ((((xs i.toNatClampNeg) &&& 31) = 0 → wL_case0 (wL_loop S0 L xs f) S0 L xs i n k m o) ∧ (((xs i.toNatClampNeg) &&& 31) = 1 → wL_case1 (wL_loop S0 L xs f) S0 L xs i n k m o) ∧ (((xs i.toNatClampNeg) &&& 31) = 2 → wL_case2 (wL_loop S0 L xs f) S0 L xs i n k m o) ∧ (((xs i.toNatClampNeg) &&& 31) = 3 → wL_case3 (wL_loop S0 L xs f) S0 L xs i n k m o) ∧ (((xs i.toNatClampNeg) &&& 31) = 4 → wL_case4 (wL_loop S0 L xs f) S0 L xs i n k m o) ∧ (((xs i.toNatClampNeg) &&& 31) = 5 → wL_case5 (wL_loop S0 L xs f) S0 L xs i n k m o) ∧ (((xs i.toNatClampNeg) &&& 31) = 6 → wL_case6 (wL_loop S0 L xs f) S0 L xs i n k m o) ∧ (((xs i.toNatClampNeg) &&& 31) = 7 → wL_case7 (wL_loop S0 L xs f) S0 L xs i n k m o) ∧ (((xs i.toNatClampNeg) &&& 31) = 8 → wL_case8 (wL_loop S0 L xs f) S0 L xs i n k m o) ∧ (((xs i.toNatClampNeg) &&& 31) = 9 → wL_case9 (wL_loop S0 L xs f) S0 L xs i n k m o) ∧ (((xs i.toNatClampNeg) &&& 31) = 10 → wL_case10 (wL_loop S0 L xs f) S0 L xs i n k m o) ∧ (((xs i.toNatClampNeg) &&& 31) = 11 → wL_case11 (wL_loop S0 L xs f) S0 L xs i n k m o) ∧ (((xs i.toNatClampNeg) &&& 31) = 12 → wL_case12 (wL_loop S0 L xs f) S0 L xs i n k m o) ∧ (((xs i.toNatClampNeg) &&& 31) = 13 → wL_case13 (wL_loop S0 L xs f) S0 L xs i n k m o) ∧ (((xs i.toNatClampNeg) &&& 31) = 14 → wL_case14 (wL_loop S0 L xs f) S0 L xs i n k m o) ∧ (((xs i.toNatClampNeg) &&& 31) = 15 → wL_case15 (wL_loop S0 L xs f) S0 L xs i n k m o) ∧ (((xs i.toNatClampNeg) &&& 31) = 16 → wL_case16 (wL_loop S0 L xs f) S0 L xs i n k m o) ∧ (((xs i.toNatClampNeg) &&& 31) = 17 → wL_case17 (wL_loop S0 L xs f) S0 L xs i n k m o) ∧ (((xs i.toNatClampNeg) &&& 31) = 18 → wL_case18 (wL_loop S0 L xs f) S0 L xs i n k m o) ∧ ((¬ ((xs i.toNatClampNeg) &&& 31) = 0 ∧ ¬ ((xs i.toNatClampNeg) &&& 31) = 1 ∧ ¬ ((xs i.toNatClampNeg) &&& 31) = 2 ∧ ¬ ((xs i.toNatClampNeg) &&& 31) = 3 ∧ ¬ ((xs i.toNatClampNeg) &&& 31) = 4 ∧ ¬ ((xs i.toNatClampNeg) &&& 31) = 5 ∧ ¬ ((xs i.toNatClampNeg) &&& 31) = 6 ∧ ¬ ((xs i.toNatClampNeg) &&& 31) = 7 ∧ ¬ ((xs i.toNatClampNeg) &&& 31) = 8 ∧ ¬ ((xs i.toNatClampNeg) &&& 31) = 9 ∧ ¬ ((xs i.toNatClampNeg) &&& 31) = 10 ∧ ¬ ((xs i.toNatClampNeg) &&& 31) = 11 ∧ ¬ ((xs i.toNatClampNeg) &&& 31) = 12 ∧ ¬ ((xs i.toNatClampNeg) &&& 31) = 13 ∧ ¬ ((xs i.toNatClampNeg) &&& 31) = 14 ∧ ¬ ((xs i.toNatClampNeg) &&& 31) = 15 ∧ ¬ ((xs i.toNatClampNeg) &&& 31) = 16 ∧ ¬ ((xs i.toNatClampNeg) &&& 31) = 17 ∧ ¬ ((xs i.toNatClampNeg) &&& 31) = 18) → (wL_loop S0 L xs f (i + 3) n k m o)))))))
set_option maxHeartbeats 40000000 in
set_option maxRecDepth 100000 in
theorem law_loop {p : Program} {e : Env} {s : State} {m : MethodId} {below : List Frame} {meth : Method} {c : Code} (l : Launch) (hlt : l.stackTraces = false) {b L S0 : Nat} {xs : Nat → Int32} {D : zD} (hx : p.tables.exec = Jvm.exec) (hb : c.code = code) (hr : meth.sig.returnType = ret) (hml : c.maxLocals = 7) (hown : s.vm.findClass R_law = some m.cls) (hts : ∀ w ∈ wsL_law, w.before #[Value.ref b] s = true) (hX : va_X b L xs s s.heap) (hbl : b < s.heap.size) (hlocks : meth.locks = false) (hS0 : S0 = s.heap.size) (hE : zE D S0 s) : ∀ (f : Nat) (i : Int32) (n : Nat) (k : kS) (mm : mS) (o : Nat → Int64) (H : Heap) (locs : List Loc) (ls : Array Slot), wL_loop S0 L xs f i n k mm o → zW D S0 (lR D S0 k mm o) s.heap H locs → lv_has ls 7 [(4, .int i), (0, .ref b), (1, .ref S0), (2, .ref (S0 + 9)), (3, .ref (S0 + 29))] → W p l e room_1 s m #[Value.ref b] below meth c H locs n (8 * n) (lw_Z below #[Value.ref b] s) (F0 m 23 ls []) := by
  have hs : S0 ≤ s.heap.size := Nat.le_of_eq hS0
  intro f
  induction f with
  | zero => intro i n k mm o H locs ls h; exact h.elim
  | succ f ih =>
    intro i n k mm o H locs ls h hW hl
    unfold wL_loop at h
    obtain ⟨hb_n, h⟩ := h
    refine lv_iload hx hb dL_law_23 (lv_at hl 0 rfl) ?_
    refine lv_aload_n hx hb dL_law_25 rfl (lv_at hl 1 rfl) ?_
    refine zw_slen hx hb hX hbl hS0 hW dL_law_26 ?_
    refine lv_iconst (v := 3) hx hb dL_law_27 (by decide) ?_
    refine lv_isub hx hb dL_law_28 ?_
    refine lv_icmp_gt (tgt := 1135) hx hb dL_law_29 (by decide) (fun c_1 => ?_) (fun c_1 => ?_)
    · replace h := h.1 c_1
      refine lv_iconst (v := 1) hx hb dL_law_1135 (by decide) ?_
      refine va_forget (fun q hq => by obtain ⟨f9, -, -, hS9, -⟩ := hW; rw [← hS0]; exact hS9.2.2 q hq) ?_
      refine W.widen (k := 601024) (n := 7293034) (by omega) (by omega) ?_
      exact lw_ret hx hb hr hlocks dL_law_1136
    · replace h := h.2 c_1
      refine lv_aload_n hx hb dL_law_32 rfl (lv_at hl 1 rfl) ?_
      refine lv_iload hx hb dL_law_33 (lv_at hl 0 rfl) ?_
      obtain ⟨hb_2, h⟩ := h
      refine zw_sld hx hb hX hbl hS0 hW hb_2 dL_law_35 ?_
      refine lv_bipush (v := 31) hx hb dL_law_36 (by decide) ?_
      refine lv_iand hx hb dL_law_38 ?_
      refine (Classical.em (((xs i.toNatClampNeg) &&& 31) = 0)).elim (fun c_3 => ?_) (fun c_3 => ?_)
      · replace h := h.1 c_3
        unfold wL_case0 at h
        refine lv_tableIn (tgt := 128) (off := 89) hx hb dL_law_39 (by rw [c_3]; decide) (by rw [c_3]; decide) (by rw [c_3]; rfl) (by decide) ?_
        refine lv_aload_n hx hb dL_law_128 rfl (lv_at hl 2 rfl) ?_
        refine lv_aload_n hx hb dL_law_129 rfl (lv_at hl 1 rfl) ?_
        refine lv_iload hx hb dL_law_130 (lv_at hl 0 rfl) ?_
        refine lv_iconst (v := 1) hx hb dL_law_132 (by decide) ?_
        refine lv_iadd hx hb dL_law_133 ?_
        obtain ⟨hb_4, h⟩ := h
        refine zw_sld hx hb hX hbl hS0 hW hb_4 dL_law_134 ?_
        refine lv_aload_n hx hb dL_law_135 rfl (lv_at hl 1 rfl) ?_
        refine lv_iload hx hb dL_law_136 (lv_at hl 0 rfl) ?_
        refine lv_iconst (v := 2) hx hb dL_law_138 (by decide) ?_
        refine lv_iadd hx hb dL_law_139 ?_
        obtain ⟨hb_5, h⟩ := h
        refine zw_sld hx hb hX hbl hS0 hW hb_5 dL_law_140 ?_
        refine lv_aload_n hx hb dL_law_141 rfl (lv_at hl 4 rfl) ?_
        obtain ⟨hb_8, h⟩ := h
        refine zs_i (vx_runSW (As := [.ref S0, .int (xs (i + 1).toNatClampNeg), .int (xs (i + 2).toNatClampNeg), .ref (S0 + 29)]) (rest := []) ⟨hx, hb, hml, hown, hts⟩ (cL_addCopy_ok l hlt D S0 (lG D S0 mm (fun _ => 0)) k o (xs (i + 1).toNatClampNeg) (xs (i + 2).toNatClampNeg) _ h) (vx_cwSW 4 hts gL_law_L_addCopy rfl rfl rfl (by decide +kernel) ⟨Nat.le_of_ble_eq_true rfl, Nat.le_of_ble_eq_true rfl⟩) (zpreS hE hs (hW.mono lo_in)) rfl rfl hl.1 rfl (lv_room (Nat.le_of_ble_eq_true rfl)) dL_law_142 ⟨by show _ ≤ 601024; omega, by show _ ≤ 7293034; omega⟩) hW (fun r6 u7 H locs _ h hW => ?_)
        replace hW := hW.mono lo_out
        refine W.widen (k := n + 2) (n := 8 * (n + 2)) (by omega) (by omega) ?_
        refine lv_istore (lv' := [(5, .int r6), (4, .int i), (0, .ref b), (1, .ref S0), (2, .ref (S0 + 9)), (3, .ref (S0 + 29))]) hx hb dL_law_145 hl (by decide) rfl (fun ls hl => ?_)
        refine lv_aload_n hx hb dL_law_147 rfl (lv_at hl 4 rfl) ?_
        refine lv_aload_n hx hb dL_law_148 rfl (lv_at hl 2 rfl) ?_
        refine lv_iload hx hb dL_law_149 (lv_at hl 1 rfl) ?_
        refine lv_iconst (v := 1) hx hb dL_law_151 (by decide) ?_
        refine lv_iadd hx hb dL_law_152 ?_
        obtain ⟨hb_11, h⟩ := h
        refine zw_sld hx hb hX hbl hS0 hW hb_11 dL_law_153 ?_
        refine lv_aload_n hx hb dL_law_154 rfl (lv_at hl 2 rfl) ?_
        refine lv_iload hx hb dL_law_155 (lv_at hl 1 rfl) ?_
        refine lv_iconst (v := 2) hx hb dL_law_157 (by decide) ?_
        refine lv_iadd hx hb dL_law_158 ?_
        obtain ⟨hb_12, h⟩ := h
        refine zw_sld hx hb hX hbl hS0 hW hb_12 dL_law_159 ?_
        refine zs_i (va_runV (As := [.int (xs (i + 1).toNatClampNeg), .int (xs (i + 2).toNatClampNeg)]) (rest := []) ⟨hx, hb, hml, hown, hts⟩ (cX6_addCopy_ok l hlt D S0 (xF D S0 (lG D S0 mm u7.2) u7.1) mm (xs (i + 1).toNatClampNeg) (xs (i + 2).toNatClampNeg) _ h) (cwV 2 hts gL_law_X6_addCopy rfl rfl rfl (by decide +kernel) ⟨Nat.le_of_ble_eq_true rfl, Nat.le_of_ble_eq_true rfl⟩) (zpreV (q := (RX6, TX6, 24)) hE hs (hW.mono lm_in) mC_M rfl) rfl rfl hl.1 rfl (lv_room (Nat.le_of_ble_eq_true rfl)) dL_law_160 ⟨by show _ ≤ 601024; omega, by show _ ≤ 7293034; omega⟩) hW (fun r13 m14 H1 locs1 hz h hW1 => ?_)
        replace hW := lm_out hW hW1 hz
        clear hW1
        refine W.widen (k := n + 2) (n := 8 * (n + 2)) (by omega) (by omega) ?_
        refine lv_istore (lv' := [(6, .int r13), (5, .int r6), (4, .int i), (0, .ref b), (1, .ref S0), (2, .ref (S0 + 9)), (3, .ref (S0 + 29))]) hx hb dL_law_163 hl (by decide) rfl (fun ls hl => ?_)
        refine lv_aload_n hx hb dL_law_165 rfl (lv_at hl 5 rfl) ?_
        refine zs_i (va_runV (As := []) (rest := []) ⟨hx, hb, hml, hown, hts⟩ (cX6_thrown_ok l hlt D S0 (xF D S0 (lG D S0 m14 u7.2) u7.1) m14 _ h) (cwV 0 hts gL_law_X6_thrown rfl rfl rfl (by decide +kernel) ⟨Nat.le_of_ble_eq_true rfl, Nat.le_of_ble_eq_true rfl⟩) (zpreV (q := (RX6, TX6, 24)) hE hs (hW.mono lm_in) mC_M rfl) rfl rfl hl.1 rfl (lv_room (Nat.le_of_ble_eq_true rfl)) dL_law_166 ⟨by show _ ≤ 601024; omega, by show _ ≤ 7293034; omega⟩) hW (fun r15 m16 H1 locs1 hz h hW1 => ?_)
        replace hW := lm_out hW hW1 hz
        clear hW1
        refine W.widen (k := n + 2) (n := 8 * (n + 2)) (by omega) (by omega) ?_
        refine lv_iload hx hb dL_law_169 (lv_at hl 1 rfl) ?_
        refine lv_icmp_eq (tgt := 176) hx hb dL_law_171 (by decide) (fun c_17 => ?_) (fun c_17 => ?_)
        · replace h := h.1 c_17
          refine lv_iload hx hb dL_law_176 (lv_at hl 1 rfl) ?_
          refine lv_if_ne (tgt := 193) hx hb dL_law_178 (by decide) (fun c_18 => ?_) (fun c_18 => ?_)
          · replace h := h.2 c_18
            refine lv_goto (tgt := 1129) hx hb dL_law_193 (by decide) ?_
            refine lv_iinc (v := (i + 3)) (lv' := [(4, .int (i + 3)), (6, .int r13), (5, .int r6), (0, .ref b), (1, .ref S0), (2, .ref (S0 + 9)), (3, .ref (S0 + 29))]) hx hb dL_law_1129 hl (k := 2) rfl rfl (by decide) rfl (fun ls hl => ?_)
            refine lv_goto (tgt := 23) hx hb dL_law_1132 (by decide) ?_
            exact ih (i + 3) (n + 2) u7.1 m16 u7.2 _ _ _ h hW (lv_sub hl [0, 3, 4, 5, 6] rfl)
          · replace h := h.1 c_18
            refine lv_aload_n hx hb dL_law_181 rfl (lv_at hl 6 rfl) ?_
            refine lv_iconst (v := 0) hx hb dL_law_182 (by decide) ?_
            refine zw_lald hx hb hE.1 hW lo_C (by unfold vp_in; decide) dL_law_183 ?_
            refine lv_iload hx hb dL_law_184 (lv_at hl 0 rfl) ?_
            refine lv_i2l hx hb dL_law_186 rfl ?_
            refine W.lcmp hx hb dL_law_187 ?_
            refine lv_if_eq (tgt := 193) hx hb dL_law_188 (by decide) (fun c_19 => ?_) (fun c_19 => ?_)
            · replace h := h.1 c_19
              refine lv_goto (tgt := 1129) hx hb dL_law_193 (by decide) ?_
              refine lv_iinc (v := (i + 3)) (lv' := [(4, .int (i + 3)), (6, .int r13), (5, .int r6), (0, .ref b), (1, .ref S0), (2, .ref (S0 + 9)), (3, .ref (S0 + 29))]) hx hb dL_law_1129 hl (k := 2) rfl rfl (by decide) rfl (fun ls hl => ?_)
              refine lv_goto (tgt := 23) hx hb dL_law_1132 (by decide) ?_
              exact ih (i + 3) (n + 2) u7.1 m16 u7.2 _ _ _ h hW (lv_sub hl [0, 3, 4, 5, 6] rfl)
            · replace h := h.2 c_19
              refine lv_iconst (v := 0) hx hb dL_law_191 (by decide) ?_
              exact h.elim
        · replace h := h.2 c_17
          refine lv_iconst (v := 0) hx hb dL_law_174 (by decide) ?_
          exact h.elim
      replace h := h.2
      refine (Classical.em (((xs i.toNatClampNeg) &&& 31) = 1)).elim (fun c_20 => ?_) (fun c_20 => ?_)
      · replace h := h.1 c_20
        unfold wL_case1 at h
        refine lv_tableIn (tgt := 196) (off := 157) hx hb dL_law_39 (by rw [c_20]; decide) (by rw [c_20]; decide) (by rw [c_20]; rfl) (by decide) ?_
        refine lv_aload_n hx hb dL_law_196 rfl (lv_at hl 2 rfl) ?_
        refine lv_aload_n hx hb dL_law_197 rfl (lv_at hl 1 rfl) ?_
        refine lv_iload hx hb dL_law_198 (lv_at hl 0 rfl) ?_
        refine lv_iconst (v := 1) hx hb dL_law_200 (by decide) ?_
        refine lv_iadd hx hb dL_law_201 ?_
        obtain ⟨hb_21, h⟩ := h
        refine zw_sld hx hb hX hbl hS0 hW hb_21 dL_law_202 ?_
        refine lv_aload_n hx hb dL_law_203 rfl (lv_at hl 4 rfl) ?_
        obtain ⟨hb_24, h⟩ := h
        refine zs_i (vx_runSW (As := [.ref S0, .int (xs (i + 1).toNatClampNeg), .ref (S0 + 29)]) (rest := []) ⟨hx, hb, hml, hown, hts⟩ (cL_inHandsOf_ok l hlt D S0 (lG D S0 mm (fun _ => 0)) k o (xs (i + 1).toNatClampNeg) _ h) (vx_cwSW 3 hts gL_law_L_inHandsOf rfl rfl rfl (by decide +kernel) ⟨Nat.le_of_ble_eq_true rfl, Nat.le_of_ble_eq_true rfl⟩) (zpreS hE hs (hW.mono lo_in)) rfl rfl hl.1 rfl (lv_room (Nat.le_of_ble_eq_true rfl)) dL_law_204 ⟨by show _ ≤ 601024; omega, by show _ ≤ 7293034; omega⟩) hW (fun r22 u23 H locs _ h hW => ?_)
        replace hW := hW.mono lo_out
        refine W.widen (k := n + 1) (n := 8 * (n + 1)) (by omega) (by omega) ?_
        refine lv_istore (lv' := [(5, .int r22), (4, .int i), (0, .ref b), (1, .ref S0), (2, .ref (S0 + 9)), (3, .ref (S0 + 29))]) hx hb dL_law_207 hl (by decide) rfl (fun ls hl => ?_)
        refine lv_aload_n hx hb dL_law_209 rfl (lv_at hl 4 rfl) ?_
        refine lv_aload_n hx hb dL_law_210 rfl (lv_at hl 2 rfl) ?_
        refine lv_iload hx hb dL_law_211 (lv_at hl 1 rfl) ?_
        refine lv_iconst (v := 1) hx hb dL_law_213 (by decide) ?_
        refine lv_iadd hx hb dL_law_214 ?_
        obtain ⟨hb_27, h⟩ := h
        refine zw_sld hx hb hX hbl hS0 hW hb_27 dL_law_215 ?_
        refine zs_i (va_runV (As := [.int (xs (i + 1).toNatClampNeg)]) (rest := []) ⟨hx, hb, hml, hown, hts⟩ (cX6_inHandsOf_ok l hlt D S0 (xF D S0 (lG D S0 mm u23.2) u23.1) mm (xs (i + 1).toNatClampNeg) _ h) (cwV 1 hts gL_law_X6_inHandsOf rfl rfl rfl (by decide +kernel) ⟨Nat.le_of_ble_eq_true rfl, Nat.le_of_ble_eq_true rfl⟩) (zpreV (q := (RX6, TX6, 24)) hE hs (hW.mono lm_in) mC_M rfl) rfl rfl hl.1 rfl (lv_room (Nat.le_of_ble_eq_true rfl)) dL_law_216 ⟨by show _ ≤ 601024; omega, by show _ ≤ 7293034; omega⟩) hW (fun r28 m29 H1 locs1 hz h hW1 => ?_)
        replace hW := lm_out hW hW1 hz
        clear hW1
        refine W.widen (k := n + 1) (n := 8 * (n + 1)) (by omega) (by omega) ?_
        refine lv_istore (lv' := [(6, .int r28), (5, .int r22), (4, .int i), (0, .ref b), (1, .ref S0), (2, .ref (S0 + 9)), (3, .ref (S0 + 29))]) hx hb dL_law_219 hl (by decide) rfl (fun ls hl => ?_)
        refine lv_aload_n hx hb dL_law_221 rfl (lv_at hl 5 rfl) ?_
        refine zs_i (va_runV (As := []) (rest := []) ⟨hx, hb, hml, hown, hts⟩ (cX6_thrown_ok l hlt D S0 (xF D S0 (lG D S0 m29 u23.2) u23.1) m29 _ h) (cwV 0 hts gL_law_X6_thrown rfl rfl rfl (by decide +kernel) ⟨Nat.le_of_ble_eq_true rfl, Nat.le_of_ble_eq_true rfl⟩) (zpreV (q := (RX6, TX6, 24)) hE hs (hW.mono lm_in) mC_M rfl) rfl rfl hl.1 rfl (lv_room (Nat.le_of_ble_eq_true rfl)) dL_law_222 ⟨by show _ ≤ 601024; omega, by show _ ≤ 7293034; omega⟩) hW (fun r30 m31 H1 locs1 hz h hW1 => ?_)
        replace hW := lm_out hW hW1 hz
        clear hW1
        refine W.widen (k := n + 1) (n := 8 * (n + 1)) (by omega) (by omega) ?_
        refine lv_iload hx hb dL_law_225 (lv_at hl 1 rfl) ?_
        refine lv_icmp_eq (tgt := 232) hx hb dL_law_227 (by decide) (fun c_32 => ?_) (fun c_32 => ?_)
        · replace h := h.1 c_32
          refine lv_iload hx hb dL_law_232 (lv_at hl 1 rfl) ?_
          refine lv_if_ne (tgt := 249) hx hb dL_law_234 (by decide) (fun c_33 => ?_) (fun c_33 => ?_)
          · replace h := h.2 c_33
            refine lv_goto (tgt := 1129) hx hb dL_law_249 (by decide) ?_
            refine lv_iinc (v := (i + 3)) (lv' := [(4, .int (i + 3)), (6, .int r28), (5, .int r22), (0, .ref b), (1, .ref S0), (2, .ref (S0 + 9)), (3, .ref (S0 + 29))]) hx hb dL_law_1129 hl (k := 2) rfl rfl (by decide) rfl (fun ls hl => ?_)
            refine lv_goto (tgt := 23) hx hb dL_law_1132 (by decide) ?_
            exact ih (i + 3) (n + 1) u23.1 m31 u23.2 _ _ _ h hW (lv_sub hl [0, 3, 4, 5, 6] rfl)
          · replace h := h.1 c_33
            refine lv_aload_n hx hb dL_law_237 rfl (lv_at hl 6 rfl) ?_
            refine lv_iconst (v := 0) hx hb dL_law_238 (by decide) ?_
            refine zw_lald hx hb hE.1 hW lo_C (by unfold vp_in; decide) dL_law_239 ?_
            refine lv_iload hx hb dL_law_240 (lv_at hl 0 rfl) ?_
            refine lv_i2l hx hb dL_law_242 rfl ?_
            refine W.lcmp hx hb dL_law_243 ?_
            refine lv_if_eq (tgt := 249) hx hb dL_law_244 (by decide) (fun c_34 => ?_) (fun c_34 => ?_)
            · replace h := h.1 c_34
              refine lv_goto (tgt := 1129) hx hb dL_law_249 (by decide) ?_
              refine lv_iinc (v := (i + 3)) (lv' := [(4, .int (i + 3)), (6, .int r28), (5, .int r22), (0, .ref b), (1, .ref S0), (2, .ref (S0 + 9)), (3, .ref (S0 + 29))]) hx hb dL_law_1129 hl (k := 2) rfl rfl (by decide) rfl (fun ls hl => ?_)
              refine lv_goto (tgt := 23) hx hb dL_law_1132 (by decide) ?_
              exact ih (i + 3) (n + 1) u23.1 m31 u23.2 _ _ _ h hW (lv_sub hl [0, 3, 4, 5, 6] rfl)
            · replace h := h.2 c_34
              refine lv_iconst (v := 0) hx hb dL_law_247 (by decide) ?_
              exact h.elim
        · replace h := h.2 c_32
          refine lv_iconst (v := 0) hx hb dL_law_230 (by decide) ?_
          exact h.elim
      replace h := h.2
      refine (Classical.em (((xs i.toNatClampNeg) &&& 31) = 2)).elim (fun c_35 => ?_) (fun c_35 => ?_)
      · replace h := h.1 c_35
        unfold wL_case2 at h
        refine lv_tableIn (tgt := 252) (off := 213) hx hb dL_law_39 (by rw [c_35]; decide) (by rw [c_35]; decide) (by rw [c_35]; rfl) (by decide) ?_
        refine lv_aload_n hx hb dL_law_252 rfl (lv_at hl 2 rfl) ?_
        refine lv_aload_n hx hb dL_law_253 rfl (lv_at hl 1 rfl) ?_
        refine lv_iload hx hb dL_law_254 (lv_at hl 0 rfl) ?_
        refine lv_iconst (v := 1) hx hb dL_law_256 (by decide) ?_
        refine lv_iadd hx hb dL_law_257 ?_
        obtain ⟨hb_36, h⟩ := h
        refine zw_sld hx hb hX hbl hS0 hW hb_36 dL_law_258 ?_
        refine lv_aload_n hx hb dL_law_259 rfl (lv_at hl 4 rfl) ?_
        obtain ⟨hb_39, h⟩ := h
        refine zs_i (vx_runSW (As := [.ref S0, .int (xs (i + 1).toNatClampNeg), .ref (S0 + 29)]) (rest := []) ⟨hx, hb, hml, hown, hts⟩ (cL_isFree_ok l hlt D S0 (lG D S0 mm (fun _ => 0)) k o (xs (i + 1).toNatClampNeg) _ h) (vx_cwSW 3 hts gL_law_L_isFree rfl rfl rfl (by decide +kernel) ⟨Nat.le_of_ble_eq_true rfl, Nat.le_of_ble_eq_true rfl⟩) (zpreS hE hs (hW.mono lo_in)) rfl rfl hl.1 rfl (lv_room (Nat.le_of_ble_eq_true rfl)) dL_law_260 ⟨by show _ ≤ 601024; omega, by show _ ≤ 7293034; omega⟩) hW (fun r37 u38 H locs _ h hW => ?_)
        replace hW := hW.mono lo_out
        refine W.widen (k := n + 1) (n := 8 * (n + 1)) (by omega) (by omega) ?_
        refine lv_istore (lv' := [(5, .int r37), (4, .int i), (0, .ref b), (1, .ref S0), (2, .ref (S0 + 9)), (3, .ref (S0 + 29))]) hx hb dL_law_263 hl (by decide) rfl (fun ls hl => ?_)
        refine lv_aload_n hx hb dL_law_265 rfl (lv_at hl 4 rfl) ?_
        refine lv_aload_n hx hb dL_law_266 rfl (lv_at hl 2 rfl) ?_
        refine lv_iload hx hb dL_law_267 (lv_at hl 1 rfl) ?_
        refine lv_iconst (v := 1) hx hb dL_law_269 (by decide) ?_
        refine lv_iadd hx hb dL_law_270 ?_
        obtain ⟨hb_42, h⟩ := h
        refine zw_sld hx hb hX hbl hS0 hW hb_42 dL_law_271 ?_
        refine zs_i (va_runV (As := [.int (xs (i + 1).toNatClampNeg)]) (rest := []) ⟨hx, hb, hml, hown, hts⟩ (cX6_isFree_ok l hlt D S0 (xF D S0 (lG D S0 mm u38.2) u38.1) mm (xs (i + 1).toNatClampNeg) _ h) (cwV 1 hts gL_law_X6_isFree rfl rfl rfl (by decide +kernel) ⟨Nat.le_of_ble_eq_true rfl, Nat.le_of_ble_eq_true rfl⟩) (zpreV (q := (RX6, TX6, 24)) hE hs (hW.mono lm_in) mC_M rfl) rfl rfl hl.1 rfl (lv_room (Nat.le_of_ble_eq_true rfl)) dL_law_272 ⟨by show _ ≤ 601024; omega, by show _ ≤ 7293034; omega⟩) hW (fun r43 m44 H1 locs1 hz h hW1 => ?_)
        replace hW := lm_out hW hW1 hz
        clear hW1
        refine W.widen (k := n + 1) (n := 8 * (n + 1)) (by omega) (by omega) ?_
        obtain ⟨h, -⟩ := h
        refine lv_istore (lv' := [(6, .int r43), (5, .int r37), (4, .int i), (0, .ref b), (1, .ref S0), (2, .ref (S0 + 9)), (3, .ref (S0 + 29))]) hx hb dL_law_275 hl (by decide) rfl (fun ls hl => ?_)
        refine lv_aload_n hx hb dL_law_277 rfl (lv_at hl 5 rfl) ?_
        refine zs_i (va_runV (As := []) (rest := []) ⟨hx, hb, hml, hown, hts⟩ (cX6_thrown_ok l hlt D S0 (xF D S0 (lG D S0 m44 u38.2) u38.1) m44 _ h) (cwV 0 hts gL_law_X6_thrown rfl rfl rfl (by decide +kernel) ⟨Nat.le_of_ble_eq_true rfl, Nat.le_of_ble_eq_true rfl⟩) (zpreV (q := (RX6, TX6, 24)) hE hs (hW.mono lm_in) mC_M rfl) rfl rfl hl.1 rfl (lv_room (Nat.le_of_ble_eq_true rfl)) dL_law_278 ⟨by show _ ≤ 601024; omega, by show _ ≤ 7293034; omega⟩) hW (fun r45 m46 H1 locs1 hz h hW1 => ?_)
        replace hW := lm_out hW hW1 hz
        clear hW1
        refine W.widen (k := n + 1) (n := 8 * (n + 1)) (by omega) (by omega) ?_
        refine lv_iload hx hb dL_law_281 (lv_at hl 1 rfl) ?_
        refine lv_icmp_eq (tgt := 288) hx hb dL_law_283 (by decide) (fun c_47 => ?_) (fun c_47 => ?_)
        · replace h := h.1 c_47
          refine lv_iload hx hb dL_law_288 (lv_at hl 1 rfl) ?_
          refine lv_if_ne (tgt := 312) hx hb dL_law_290 (by decide) (fun c_48 => ?_) (fun c_48 => ?_)
          · replace h := h.2 c_48
            refine lv_goto (tgt := 1129) hx hb dL_law_312 (by decide) ?_
            refine lv_iinc (v := (i + 3)) (lv' := [(4, .int (i + 3)), (6, .int r43), (5, .int r37), (0, .ref b), (1, .ref S0), (2, .ref (S0 + 9)), (3, .ref (S0 + 29))]) hx hb dL_law_1129 hl (k := 2) rfl rfl (by decide) rfl (fun ls hl => ?_)
            refine lv_goto (tgt := 23) hx hb dL_law_1132 (by decide) ?_
            exact ih (i + 3) (n + 1) u38.1 m46 u38.2 _ _ _ h hW (lv_sub hl [0, 3, 4, 5, 6] rfl)
          · replace h := h.1 c_48
            refine lv_aload_n hx hb dL_law_293 rfl (lv_at hl 6 rfl) ?_
            refine lv_iconst (v := 0) hx hb dL_law_294 (by decide) ?_
            refine zw_lald hx hb hE.1 hW lo_C (by unfold vp_in; decide) dL_law_295 ?_
            refine lv_iload hx hb dL_law_296 (lv_at hl 0 rfl) ?_
            refine lv_if_eq (tgt := 305) hx hb dL_law_298 (by decide) (fun c_49 => ?_) (fun c_49 => ?_)
            · replace h := h.1 c_49
              refine lv_lconst (v := 0) hx hb dL_law_305 (by decide) ?_
              refine W.lcmp hx hb dL_law_306 ?_
              refine lv_if_eq (tgt := 312) hx hb dL_law_307 (by decide) (fun c_50 => ?_) (fun c_50 => ?_)
              · replace h := h.1 c_50
                refine lv_goto (tgt := 1129) hx hb dL_law_312 (by decide) ?_
                refine lv_iinc (v := (i + 3)) (lv' := [(4, .int (i + 3)), (6, .int r43), (5, .int r37), (0, .ref b), (1, .ref S0), (2, .ref (S0 + 9)), (3, .ref (S0 + 29))]) hx hb dL_law_1129 hl (k := 2) rfl rfl (by decide) rfl (fun ls hl => ?_)
                refine lv_goto (tgt := 23) hx hb dL_law_1132 (by decide) ?_
                exact ih (i + 3) (n + 1) u38.1 m46 u38.2 _ _ _ h hW (lv_sub hl [0, 3, 4, 5, 6] rfl)
              · replace h := h.2 c_50
                refine lv_iconst (v := 0) hx hb dL_law_310 (by decide) ?_
                exact h.elim
            · replace h := h.2 c_49
              refine lv_lconst (v := 1) hx hb dL_law_301 (by decide) ?_
              refine lv_goto (tgt := 306) hx hb dL_law_302 (by decide) ?_
              refine W.lcmp hx hb dL_law_306 ?_
              refine lv_if_eq (tgt := 312) hx hb dL_law_307 (by decide) (fun c_51 => ?_) (fun c_51 => ?_)
              · replace h := h.1 c_51
                refine lv_goto (tgt := 1129) hx hb dL_law_312 (by decide) ?_
                refine lv_iinc (v := (i + 3)) (lv' := [(4, .int (i + 3)), (6, .int r43), (5, .int r37), (0, .ref b), (1, .ref S0), (2, .ref (S0 + 9)), (3, .ref (S0 + 29))]) hx hb dL_law_1129 hl (k := 2) rfl rfl (by decide) rfl (fun ls hl => ?_)
                refine lv_goto (tgt := 23) hx hb dL_law_1132 (by decide) ?_
                exact ih (i + 3) (n + 1) u38.1 m46 u38.2 _ _ _ h hW (lv_sub hl [0, 3, 4, 5, 6] rfl)
              · replace h := h.2 c_51
                refine lv_iconst (v := 0) hx hb dL_law_310 (by decide) ?_
                exact h.elim
        · replace h := h.2 c_47
          refine lv_iconst (v := 0) hx hb dL_law_286 (by decide) ?_
          exact h.elim
      replace h := h.2
      refine (Classical.em (((xs i.toNatClampNeg) &&& 31) = 3)).elim (fun c_52 => ?_) (fun c_52 => ?_)
      · replace h := h.1 c_52
        unfold wL_case3 at h
        refine lv_tableIn (tgt := 315) (off := 276) hx hb dL_law_39 (by rw [c_52]; decide) (by rw [c_52]; decide) (by rw [c_52]; rfl) (by decide) ?_
        refine lv_aload_n hx hb dL_law_315 rfl (lv_at hl 2 rfl) ?_
        refine lv_aload_n hx hb dL_law_316 rfl (lv_at hl 1 rfl) ?_
        refine lv_iload hx hb dL_law_317 (lv_at hl 0 rfl) ?_
        refine lv_iconst (v := 1) hx hb dL_law_319 (by decide) ?_
        refine lv_iadd hx hb dL_law_320 ?_
        obtain ⟨hb_53, h⟩ := h
        refine zw_sld hx hb hX hbl hS0 hW hb_53 dL_law_321 ?_
        refine lv_aload_n hx hb dL_law_322 rfl (lv_at hl 4 rfl) ?_
        obtain ⟨hb_56, h⟩ := h
        refine zs_i (vx_runSW (As := [.ref S0, .int (xs (i + 1).toNatClampNeg), .ref (S0 + 29)]) (rest := []) ⟨hx, hb, hml, hown, hts⟩ (cL_listed_ok l hlt D S0 (lG D S0 mm (fun _ => 0)) k o (xs (i + 1).toNatClampNeg) _ h) (vx_cwSW 3 hts gL_law_L_listed rfl rfl rfl (by decide +kernel) ⟨Nat.le_of_ble_eq_true rfl, Nat.le_of_ble_eq_true rfl⟩) (zpreS hE hs (hW.mono lo_in)) rfl rfl hl.1 rfl (lv_room (Nat.le_of_ble_eq_true rfl)) dL_law_323 ⟨by show _ ≤ 601024; omega, by show _ ≤ 7293034; omega⟩) hW (fun r54 u55 H locs _ h hW => ?_)
        replace hW := hW.mono lo_out
        refine W.widen (k := n + 1) (n := 8 * (n + 1)) (by omega) (by omega) ?_
        refine lv_istore (lv' := [(5, .int r54), (4, .int i), (0, .ref b), (1, .ref S0), (2, .ref (S0 + 9)), (3, .ref (S0 + 29))]) hx hb dL_law_326 hl (by decide) rfl (fun ls hl => ?_)
        refine lv_aload_n hx hb dL_law_328 rfl (lv_at hl 4 rfl) ?_
        refine lv_aload_n hx hb dL_law_329 rfl (lv_at hl 2 rfl) ?_
        refine lv_iload hx hb dL_law_330 (lv_at hl 1 rfl) ?_
        refine lv_iconst (v := 1) hx hb dL_law_332 (by decide) ?_
        refine lv_iadd hx hb dL_law_333 ?_
        obtain ⟨hb_59, h⟩ := h
        refine zw_sld hx hb hX hbl hS0 hW hb_59 dL_law_334 ?_
        refine zs_i (va_runV (As := [.int (xs (i + 1).toNatClampNeg)]) (rest := []) ⟨hx, hb, hml, hown, hts⟩ (cX6_listed_ok l hlt D S0 (xF D S0 (lG D S0 mm u55.2) u55.1) mm (xs (i + 1).toNatClampNeg) _ h) (cwV 1 hts gL_law_X6_listed rfl rfl rfl (by decide +kernel) ⟨Nat.le_of_ble_eq_true rfl, Nat.le_of_ble_eq_true rfl⟩) (zpreV (q := (RX6, TX6, 24)) hE hs (hW.mono lm_in) mC_M rfl) rfl rfl hl.1 rfl (lv_room (Nat.le_of_ble_eq_true rfl)) dL_law_335 ⟨by show _ ≤ 601024; omega, by show _ ≤ 7293034; omega⟩) hW (fun r60 m61 H1 locs1 hz h hW1 => ?_)
        replace hW := lm_out hW hW1 hz
        clear hW1
        refine W.widen (k := n + 1) (n := 8 * (n + 1)) (by omega) (by omega) ?_
        refine lv_istore (lv' := [(6, .int r60), (5, .int r54), (4, .int i), (0, .ref b), (1, .ref S0), (2, .ref (S0 + 9)), (3, .ref (S0 + 29))]) hx hb dL_law_338 hl (by decide) rfl (fun ls hl => ?_)
        refine lv_aload_n hx hb dL_law_340 rfl (lv_at hl 5 rfl) ?_
        refine zs_i (va_runV (As := []) (rest := []) ⟨hx, hb, hml, hown, hts⟩ (cX6_thrown_ok l hlt D S0 (xF D S0 (lG D S0 m61 u55.2) u55.1) m61 _ h) (cwV 0 hts gL_law_X6_thrown rfl rfl rfl (by decide +kernel) ⟨Nat.le_of_ble_eq_true rfl, Nat.le_of_ble_eq_true rfl⟩) (zpreV (q := (RX6, TX6, 24)) hE hs (hW.mono lm_in) mC_M rfl) rfl rfl hl.1 rfl (lv_room (Nat.le_of_ble_eq_true rfl)) dL_law_341 ⟨by show _ ≤ 601024; omega, by show _ ≤ 7293034; omega⟩) hW (fun r62 m63 H1 locs1 hz h hW1 => ?_)
        replace hW := lm_out hW hW1 hz
        clear hW1
        refine W.widen (k := n + 1) (n := 8 * (n + 1)) (by omega) (by omega) ?_
        refine lv_iload hx hb dL_law_344 (lv_at hl 1 rfl) ?_
        refine lv_icmp_eq (tgt := 351) hx hb dL_law_346 (by decide) (fun c_64 => ?_) (fun c_64 => ?_)
        · replace h := h.1 c_64
          refine lv_iload hx hb dL_law_351 (lv_at hl 1 rfl) ?_
          refine lv_if_ne (tgt := 368) hx hb dL_law_353 (by decide) (fun c_65 => ?_) (fun c_65 => ?_)
          · replace h := h.2 c_65
            refine lv_goto (tgt := 1129) hx hb dL_law_368 (by decide) ?_
            refine lv_iinc (v := (i + 3)) (lv' := [(4, .int (i + 3)), (6, .int r60), (5, .int r54), (0, .ref b), (1, .ref S0), (2, .ref (S0 + 9)), (3, .ref (S0 + 29))]) hx hb dL_law_1129 hl (k := 2) rfl rfl (by decide) rfl (fun ls hl => ?_)
            refine lv_goto (tgt := 23) hx hb dL_law_1132 (by decide) ?_
            exact ih (i + 3) (n + 1) u55.1 m63 u55.2 _ _ _ h hW (lv_sub hl [0, 3, 4, 5, 6] rfl)
          · replace h := h.1 c_65
            refine lv_aload_n hx hb dL_law_356 rfl (lv_at hl 6 rfl) ?_
            refine lv_iconst (v := 0) hx hb dL_law_357 (by decide) ?_
            refine zw_lald hx hb hE.1 hW lo_C (by unfold vp_in; decide) dL_law_358 ?_
            refine lv_iload hx hb dL_law_359 (lv_at hl 0 rfl) ?_
            refine lv_i2l hx hb dL_law_361 rfl ?_
            refine W.lcmp hx hb dL_law_362 ?_
            refine lv_if_eq (tgt := 368) hx hb dL_law_363 (by decide) (fun c_66 => ?_) (fun c_66 => ?_)
            · replace h := h.1 c_66
              refine lv_goto (tgt := 1129) hx hb dL_law_368 (by decide) ?_
              refine lv_iinc (v := (i + 3)) (lv' := [(4, .int (i + 3)), (6, .int r60), (5, .int r54), (0, .ref b), (1, .ref S0), (2, .ref (S0 + 9)), (3, .ref (S0 + 29))]) hx hb dL_law_1129 hl (k := 2) rfl rfl (by decide) rfl (fun ls hl => ?_)
              refine lv_goto (tgt := 23) hx hb dL_law_1132 (by decide) ?_
              exact ih (i + 3) (n + 1) u55.1 m63 u55.2 _ _ _ h hW (lv_sub hl [0, 3, 4, 5, 6] rfl)
            · replace h := h.2 c_66
              refine lv_iconst (v := 0) hx hb dL_law_366 (by decide) ?_
              exact h.elim
        · replace h := h.2 c_64
          refine lv_iconst (v := 0) hx hb dL_law_349 (by decide) ?_
          exact h.elim
      replace h := h.2
      refine (Classical.em (((xs i.toNatClampNeg) &&& 31) = 4)).elim (fun c_67 => ?_) (fun c_67 => ?_)
      · replace h := h.1 c_67
        unfold wL_case4 at h
        refine lv_tableIn (tgt := 371) (off := 332) hx hb dL_law_39 (by rw [c_67]; decide) (by rw [c_67]; decide) (by rw [c_67]; rfl) (by decide) ?_
        refine lv_aload_n hx hb dL_law_371 rfl (lv_at hl 2 rfl) ?_
        refine lv_aload_n hx hb dL_law_372 rfl (lv_at hl 1 rfl) ?_
        refine lv_iload hx hb dL_law_373 (lv_at hl 0 rfl) ?_
        refine lv_iconst (v := 1) hx hb dL_law_375 (by decide) ?_
        refine lv_iadd hx hb dL_law_376 ?_
        obtain ⟨hb_68, h⟩ := h
        refine zw_sld hx hb hX hbl hS0 hW hb_68 dL_law_377 ?_
        refine lv_aload_n hx hb dL_law_378 rfl (lv_at hl 4 rfl) ?_
        obtain ⟨hb_71, h⟩ := h
        refine zs_i (vx_runSW (As := [.ref S0, .int (xs (i + 1).toNatClampNeg), .ref (S0 + 29)]) (rest := []) ⟨hx, hb, hml, hown, hts⟩ (cL_harm_ok l hlt D S0 (lG D S0 mm (fun _ => 0)) k o (xs (i + 1).toNatClampNeg) _ h) (vx_cwSW 3 hts gL_law_L_harm rfl rfl rfl (by decide +kernel) ⟨Nat.le_of_ble_eq_true rfl, Nat.le_of_ble_eq_true rfl⟩) (zpreS hE hs (hW.mono lo_in)) rfl rfl hl.1 rfl (lv_room (Nat.le_of_ble_eq_true rfl)) dL_law_379 ⟨by show _ ≤ 601024; omega, by show _ ≤ 7293034; omega⟩) hW (fun r69 u70 H locs _ h hW => ?_)
        replace hW := hW.mono lo_out
        refine W.widen (k := n + 2) (n := 8 * (n + 2)) (by omega) (by omega) ?_
        refine lv_istore (lv' := [(5, .int r69), (4, .int i), (0, .ref b), (1, .ref S0), (2, .ref (S0 + 9)), (3, .ref (S0 + 29))]) hx hb dL_law_382 hl (by decide) rfl (fun ls hl => ?_)
        refine lv_aload_n hx hb dL_law_384 rfl (lv_at hl 4 rfl) ?_
        refine lv_aload_n hx hb dL_law_385 rfl (lv_at hl 2 rfl) ?_
        refine lv_iload hx hb dL_law_386 (lv_at hl 1 rfl) ?_
        refine lv_iconst (v := 1) hx hb dL_law_388 (by decide) ?_
        refine lv_iadd hx hb dL_law_389 ?_
        obtain ⟨hb_74, h⟩ := h
        refine zw_sld hx hb hX hbl hS0 hW hb_74 dL_law_390 ?_
        refine zs_i (va_runV (As := [.int (xs (i + 1).toNatClampNeg)]) (rest := []) ⟨hx, hb, hml, hown, hts⟩ (cX6_harm_ok l hlt D S0 (xF D S0 (lG D S0 mm u70.2) u70.1) mm (xs (i + 1).toNatClampNeg) _ h) (cwV 1 hts gL_law_X6_harm rfl rfl rfl (by decide +kernel) ⟨Nat.le_of_ble_eq_true rfl, Nat.le_of_ble_eq_true rfl⟩) (zpreV (q := (RX6, TX6, 24)) hE hs (hW.mono lm_in) mC_M rfl) rfl rfl hl.1 rfl (lv_room (Nat.le_of_ble_eq_true rfl)) dL_law_391 ⟨by show _ ≤ 601024; omega, by show _ ≤ 7293034; omega⟩) hW (fun r75 m76 H1 locs1 hz h hW1 => ?_)
        replace hW := lm_out hW hW1 hz
        clear hW1
        refine W.widen (k := n + 2) (n := 8 * (n + 2)) (by omega) (by omega) ?_
        refine lv_istore (lv' := [(6, .int r75), (5, .int r69), (4, .int i), (0, .ref b), (1, .ref S0), (2, .ref (S0 + 9)), (3, .ref (S0 + 29))]) hx hb dL_law_394 hl (by decide) rfl (fun ls hl => ?_)
        refine lv_aload_n hx hb dL_law_396 rfl (lv_at hl 5 rfl) ?_
        refine zs_i (va_runV (As := []) (rest := []) ⟨hx, hb, hml, hown, hts⟩ (cX6_thrown_ok l hlt D S0 (xF D S0 (lG D S0 m76 u70.2) u70.1) m76 _ h) (cwV 0 hts gL_law_X6_thrown rfl rfl rfl (by decide +kernel) ⟨Nat.le_of_ble_eq_true rfl, Nat.le_of_ble_eq_true rfl⟩) (zpreV (q := (RX6, TX6, 24)) hE hs (hW.mono lm_in) mC_M rfl) rfl rfl hl.1 rfl (lv_room (Nat.le_of_ble_eq_true rfl)) dL_law_397 ⟨by show _ ≤ 601024; omega, by show _ ≤ 7293034; omega⟩) hW (fun r77 m78 H1 locs1 hz h hW1 => ?_)
        replace hW := lm_out hW hW1 hz
        clear hW1
        refine W.widen (k := n + 2) (n := 8 * (n + 2)) (by omega) (by omega) ?_
        refine lv_iload hx hb dL_law_400 (lv_at hl 1 rfl) ?_
        refine lv_icmp_eq (tgt := 407) hx hb dL_law_402 (by decide) (fun c_79 => ?_) (fun c_79 => ?_)
        · replace h := h.1 c_79
          refine lv_iload hx hb dL_law_407 (lv_at hl 1 rfl) ?_
          refine lv_if_ne (tgt := 424) hx hb dL_law_409 (by decide) (fun c_80 => ?_) (fun c_80 => ?_)
          · replace h := h.2 c_80
            refine lv_goto (tgt := 1129) hx hb dL_law_424 (by decide) ?_
            refine lv_iinc (v := (i + 3)) (lv' := [(4, .int (i + 3)), (6, .int r75), (5, .int r69), (0, .ref b), (1, .ref S0), (2, .ref (S0 + 9)), (3, .ref (S0 + 29))]) hx hb dL_law_1129 hl (k := 2) rfl rfl (by decide) rfl (fun ls hl => ?_)
            refine lv_goto (tgt := 23) hx hb dL_law_1132 (by decide) ?_
            exact ih (i + 3) (n + 2) u70.1 m78 u70.2 _ _ _ h hW (lv_sub hl [0, 3, 4, 5, 6] rfl)
          · replace h := h.1 c_80
            refine lv_aload_n hx hb dL_law_412 rfl (lv_at hl 6 rfl) ?_
            refine lv_iconst (v := 0) hx hb dL_law_413 (by decide) ?_
            refine zw_lald hx hb hE.1 hW lo_C (by unfold vp_in; decide) dL_law_414 ?_
            refine lv_iload hx hb dL_law_415 (lv_at hl 0 rfl) ?_
            refine lv_i2l hx hb dL_law_417 rfl ?_
            refine W.lcmp hx hb dL_law_418 ?_
            refine lv_if_eq (tgt := 424) hx hb dL_law_419 (by decide) (fun c_81 => ?_) (fun c_81 => ?_)
            · replace h := h.1 c_81
              refine lv_goto (tgt := 1129) hx hb dL_law_424 (by decide) ?_
              refine lv_iinc (v := (i + 3)) (lv' := [(4, .int (i + 3)), (6, .int r75), (5, .int r69), (0, .ref b), (1, .ref S0), (2, .ref (S0 + 9)), (3, .ref (S0 + 29))]) hx hb dL_law_1129 hl (k := 2) rfl rfl (by decide) rfl (fun ls hl => ?_)
              refine lv_goto (tgt := 23) hx hb dL_law_1132 (by decide) ?_
              exact ih (i + 3) (n + 2) u70.1 m78 u70.2 _ _ _ h hW (lv_sub hl [0, 3, 4, 5, 6] rfl)
            · replace h := h.2 c_81
              refine lv_iconst (v := 0) hx hb dL_law_422 (by decide) ?_
              exact h.elim
        · replace h := h.2 c_79
          refine lv_iconst (v := 0) hx hb dL_law_405 (by decide) ?_
          exact h.elim
      replace h := h.2
      refine (Classical.em (((xs i.toNatClampNeg) &&& 31) = 5)).elim (fun c_82 => ?_) (fun c_82 => ?_)
      · replace h := h.1 c_82
        unfold wL_case5 at h
        refine lv_tableIn (tgt := 427) (off := 388) hx hb dL_law_39 (by rw [c_82]; decide) (by rw [c_82]; decide) (by rw [c_82]; rfl) (by decide) ?_
        refine lv_aload_n hx hb dL_law_427 rfl (lv_at hl 2 rfl) ?_
        refine lv_aload_n hx hb dL_law_428 rfl (lv_at hl 1 rfl) ?_
        refine lv_iload hx hb dL_law_429 (lv_at hl 0 rfl) ?_
        refine lv_iconst (v := 1) hx hb dL_law_431 (by decide) ?_
        refine lv_iadd hx hb dL_law_432 ?_
        obtain ⟨hb_83, h⟩ := h
        refine zw_sld hx hb hX hbl hS0 hW hb_83 dL_law_433 ?_
        refine lv_aload_n hx hb dL_law_434 rfl (lv_at hl 4 rfl) ?_
        obtain ⟨hb_86, h⟩ := h
        refine zs_i (vx_runSW (As := [.ref S0, .int (xs (i + 1).toNatClampNeg), .ref (S0 + 29)]) (rest := []) ⟨hx, hb, hml, hown, hts⟩ (cL_look_ok l hlt D S0 (lG D S0 mm (fun _ => 0)) k o (xs (i + 1).toNatClampNeg) _ h) (vx_cwSW 3 hts gL_law_L_look rfl rfl rfl (by decide +kernel) ⟨Nat.le_of_ble_eq_true rfl, Nat.le_of_ble_eq_true rfl⟩) (zpreS hE hs (hW.mono lo_in)) rfl rfl hl.1 rfl (lv_room (Nat.le_of_ble_eq_true rfl)) dL_law_435 ⟨by show _ ≤ 601024; omega, by show _ ≤ 7293034; omega⟩) hW (fun r84 u85 H locs _ h hW => ?_)
        replace hW := hW.mono lo_out
        refine W.widen (k := n + 2) (n := 8 * (n + 2)) (by omega) (by omega) ?_
        refine lv_istore (lv' := [(5, .int r84), (4, .int i), (0, .ref b), (1, .ref S0), (2, .ref (S0 + 9)), (3, .ref (S0 + 29))]) hx hb dL_law_438 hl (by decide) rfl (fun ls hl => ?_)
        refine lv_aload_n hx hb dL_law_440 rfl (lv_at hl 4 rfl) ?_
        refine lv_aload_n hx hb dL_law_441 rfl (lv_at hl 2 rfl) ?_
        refine lv_iload hx hb dL_law_442 (lv_at hl 1 rfl) ?_
        refine lv_iconst (v := 1) hx hb dL_law_444 (by decide) ?_
        refine lv_iadd hx hb dL_law_445 ?_
        obtain ⟨hb_89, h⟩ := h
        refine zw_sld hx hb hX hbl hS0 hW hb_89 dL_law_446 ?_
        refine zs_i (va_runV (As := [.int (xs (i + 1).toNatClampNeg)]) (rest := []) ⟨hx, hb, hml, hown, hts⟩ (cX6_look_ok l hlt D S0 (xF D S0 (lG D S0 mm u85.2) u85.1) mm (xs (i + 1).toNatClampNeg) _ h) (cwV 1 hts gL_law_X6_look rfl rfl rfl (by decide +kernel) ⟨Nat.le_of_ble_eq_true rfl, Nat.le_of_ble_eq_true rfl⟩) (zpreV (q := (RX6, TX6, 24)) hE hs (hW.mono lm_in) mC_M rfl) rfl rfl hl.1 rfl (lv_room (Nat.le_of_ble_eq_true rfl)) dL_law_447 ⟨by show _ ≤ 601024; omega, by show _ ≤ 7293034; omega⟩) hW (fun r90 m91 H1 locs1 hz h hW1 => ?_)
        replace hW := lm_out hW hW1 hz
        clear hW1
        refine W.widen (k := n + 2) (n := 8 * (n + 2)) (by omega) (by omega) ?_
        refine lv_istore (lv' := [(6, .int r90), (5, .int r84), (4, .int i), (0, .ref b), (1, .ref S0), (2, .ref (S0 + 9)), (3, .ref (S0 + 29))]) hx hb dL_law_450 hl (by decide) rfl (fun ls hl => ?_)
        refine lv_aload_n hx hb dL_law_452 rfl (lv_at hl 5 rfl) ?_
        refine zs_i (va_runV (As := []) (rest := []) ⟨hx, hb, hml, hown, hts⟩ (cX6_thrown_ok l hlt D S0 (xF D S0 (lG D S0 m91 u85.2) u85.1) m91 _ h) (cwV 0 hts gL_law_X6_thrown rfl rfl rfl (by decide +kernel) ⟨Nat.le_of_ble_eq_true rfl, Nat.le_of_ble_eq_true rfl⟩) (zpreV (q := (RX6, TX6, 24)) hE hs (hW.mono lm_in) mC_M rfl) rfl rfl hl.1 rfl (lv_room (Nat.le_of_ble_eq_true rfl)) dL_law_453 ⟨by show _ ≤ 601024; omega, by show _ ≤ 7293034; omega⟩) hW (fun r92 m93 H1 locs1 hz h hW1 => ?_)
        replace hW := lm_out hW hW1 hz
        clear hW1
        refine W.widen (k := n + 2) (n := 8 * (n + 2)) (by omega) (by omega) ?_
        refine lv_iload hx hb dL_law_456 (lv_at hl 1 rfl) ?_
        refine lv_icmp_eq (tgt := 463) hx hb dL_law_458 (by decide) (fun c_94 => ?_) (fun c_94 => ?_)
        · replace h := h.1 c_94
          refine lv_iload hx hb dL_law_463 (lv_at hl 1 rfl) ?_
          refine lv_if_ne (tgt := 480) hx hb dL_law_465 (by decide) (fun c_95 => ?_) (fun c_95 => ?_)
          · replace h := h.2 c_95
            refine lv_goto (tgt := 1129) hx hb dL_law_480 (by decide) ?_
            refine lv_iinc (v := (i + 3)) (lv' := [(4, .int (i + 3)), (6, .int r90), (5, .int r84), (0, .ref b), (1, .ref S0), (2, .ref (S0 + 9)), (3, .ref (S0 + 29))]) hx hb dL_law_1129 hl (k := 2) rfl rfl (by decide) rfl (fun ls hl => ?_)
            refine lv_goto (tgt := 23) hx hb dL_law_1132 (by decide) ?_
            exact ih (i + 3) (n + 2) u85.1 m93 u85.2 _ _ _ h hW (lv_sub hl [0, 3, 4, 5, 6] rfl)
          · replace h := h.1 c_95
            refine lv_aload_n hx hb dL_law_468 rfl (lv_at hl 6 rfl) ?_
            refine lv_iconst (v := 0) hx hb dL_law_469 (by decide) ?_
            refine zw_lald hx hb hE.1 hW lo_C (by unfold vp_in; decide) dL_law_470 ?_
            refine lv_iload hx hb dL_law_471 (lv_at hl 0 rfl) ?_
            refine lv_i2l hx hb dL_law_473 rfl ?_
            refine W.lcmp hx hb dL_law_474 ?_
            refine lv_if_eq (tgt := 480) hx hb dL_law_475 (by decide) (fun c_96 => ?_) (fun c_96 => ?_)
            · replace h := h.1 c_96
              refine lv_goto (tgt := 1129) hx hb dL_law_480 (by decide) ?_
              refine lv_iinc (v := (i + 3)) (lv' := [(4, .int (i + 3)), (6, .int r90), (5, .int r84), (0, .ref b), (1, .ref S0), (2, .ref (S0 + 9)), (3, .ref (S0 + 29))]) hx hb dL_law_1129 hl (k := 2) rfl rfl (by decide) rfl (fun ls hl => ?_)
              refine lv_goto (tgt := 23) hx hb dL_law_1132 (by decide) ?_
              exact ih (i + 3) (n + 2) u85.1 m93 u85.2 _ _ _ h hW (lv_sub hl [0, 3, 4, 5, 6] rfl)
            · replace h := h.2 c_96
              refine lv_iconst (v := 0) hx hb dL_law_478 (by decide) ?_
              exact h.elim
        · replace h := h.2 c_94
          refine lv_iconst (v := 0) hx hb dL_law_461 (by decide) ?_
          exact h.elim
      replace h := h.2
      refine (Classical.em (((xs i.toNatClampNeg) &&& 31) = 6)).elim (fun c_97 => ?_) (fun c_97 => ?_)
      · replace h := h.1 c_97
        unfold wL_case6 at h
        refine lv_tableIn (tgt := 483) (off := 444) hx hb dL_law_39 (by rw [c_97]; decide) (by rw [c_97]; decide) (by rw [c_97]; rfl) (by decide) ?_
        refine lv_aload_n hx hb dL_law_483 rfl (lv_at hl 2 rfl) ?_
        refine lv_aload_n hx hb dL_law_484 rfl (lv_at hl 1 rfl) ?_
        refine lv_iload hx hb dL_law_485 (lv_at hl 0 rfl) ?_
        refine lv_iconst (v := 1) hx hb dL_law_487 (by decide) ?_
        refine lv_iadd hx hb dL_law_488 ?_
        obtain ⟨hb_98, h⟩ := h
        refine zw_sld hx hb hX hbl hS0 hW hb_98 dL_law_489 ?_
        obtain ⟨hb_101, h⟩ := h
        refine zs_i (vx_runSW (As := [.ref S0, .int (xs (i + 1).toNatClampNeg)]) (rest := []) ⟨hx, hb, hml, hown, hts⟩ (cL_mend_ok l hlt D S0 (lG D S0 mm (fun _ => 0)) k o (xs (i + 1).toNatClampNeg) _ h) (vx_cwSW 2 hts gL_law_L_mend rfl rfl rfl (by decide +kernel) ⟨Nat.le_of_ble_eq_true rfl, Nat.le_of_ble_eq_true rfl⟩) (zpreS hE hs (hW.mono lo_in)) rfl rfl hl.1 rfl (lv_room (Nat.le_of_ble_eq_true rfl)) dL_law_490 ⟨by show _ ≤ 601024; omega, by show _ ≤ 7293034; omega⟩) hW (fun r99 u100 H locs _ h hW => ?_)
        replace hW := hW.mono lo_out
        refine W.widen (k := n + 2) (n := 8 * (n + 2)) (by omega) (by omega) ?_
        refine lv_istore (lv' := [(5, .int r99), (4, .int i), (0, .ref b), (1, .ref S0), (2, .ref (S0 + 9)), (3, .ref (S0 + 29))]) hx hb dL_law_493 hl (by decide) rfl (fun ls hl => ?_)
        refine lv_aload_n hx hb dL_law_495 rfl (lv_at hl 4 rfl) ?_
        refine lv_aload_n hx hb dL_law_496 rfl (lv_at hl 2 rfl) ?_
        refine lv_iload hx hb dL_law_497 (lv_at hl 1 rfl) ?_
        refine lv_iconst (v := 1) hx hb dL_law_499 (by decide) ?_
        refine lv_iadd hx hb dL_law_500 ?_
        obtain ⟨hb_104, h⟩ := h
        refine zw_sld hx hb hX hbl hS0 hW hb_104 dL_law_501 ?_
        refine zs_v (va_runV (As := [.int (xs (i + 1).toNatClampNeg)]) (rest := []) ⟨hx, hb, hml, hown, hts⟩ (cX6_mend_ok l hlt D S0 (xF D S0 (lG D S0 mm u100.2) u100.1) mm (xs (i + 1).toNatClampNeg) _ h) (cwV 1 hts gL_law_X6_mend rfl rfl rfl (by decide +kernel) ⟨Nat.le_of_ble_eq_true rfl, Nat.le_of_ble_eq_true rfl⟩) (zpreV (q := (RX6, TX6, 24)) hE hs (hW.mono lm_in) mC_M rfl) rfl rfl hl.1 rfl (lv_room (Nat.le_of_ble_eq_true rfl)) dL_law_502 ⟨by show _ ≤ 601024; omega, by show _ ≤ 7293034; omega⟩) hW (fun m106 H1 locs1 hz h hW1 => ?_)
        replace hW := lm_out hW hW1 hz
        clear hW1
        refine W.widen (k := n + 2) (n := 8 * (n + 2)) (by omega) (by omega) ?_
        refine lv_aload_n hx hb dL_law_505 rfl (lv_at hl 4 rfl) ?_
        refine zs_i (va_runV (As := []) (rest := []) ⟨hx, hb, hml, hown, hts⟩ (cX6_thrown_ok l hlt D S0 (xF D S0 (lG D S0 m106 u100.2) u100.1) m106 _ h) (cwV 0 hts gL_law_X6_thrown rfl rfl rfl (by decide +kernel) ⟨Nat.le_of_ble_eq_true rfl, Nat.le_of_ble_eq_true rfl⟩) (zpreV (q := (RX6, TX6, 24)) hE hs (hW.mono lm_in) mC_M rfl) rfl rfl hl.1 rfl (lv_room (Nat.le_of_ble_eq_true rfl)) dL_law_506 ⟨by show _ ≤ 601024; omega, by show _ ≤ 7293034; omega⟩) hW (fun r107 m108 H1 locs1 hz h hW1 => ?_)
        replace hW := lm_out hW hW1 hz
        clear hW1
        refine W.widen (k := n + 2) (n := 8 * (n + 2)) (by omega) (by omega) ?_
        refine lv_iload hx hb dL_law_509 (lv_at hl 0 rfl) ?_
        refine lv_icmp_eq (tgt := 516) hx hb dL_law_511 (by decide) (fun c_109 => ?_) (fun c_109 => ?_)
        · replace h := h.1 c_109
          refine lv_goto (tgt := 1129) hx hb dL_law_516 (by decide) ?_
          refine lv_iinc (v := (i + 3)) (lv' := [(4, .int (i + 3)), (5, .int r99), (0, .ref b), (1, .ref S0), (2, .ref (S0 + 9)), (3, .ref (S0 + 29))]) hx hb dL_law_1129 hl (k := 1) rfl rfl (by decide) rfl (fun ls hl => ?_)
          refine lv_goto (tgt := 23) hx hb dL_law_1132 (by decide) ?_
          exact ih (i + 3) (n + 2) u100.1 m108 u100.2 _ _ _ h hW (lv_sub hl [0, 2, 3, 4, 5] rfl)
        · replace h := h.2 c_109
          refine lv_iconst (v := 0) hx hb dL_law_514 (by decide) ?_
          exact h.elim
      replace h := h.2
      refine (Classical.em (((xs i.toNatClampNeg) &&& 31) = 7)).elim (fun c_110 => ?_) (fun c_110 => ?_)
      · replace h := h.1 c_110
        unfold wL_case7 at h
        refine lv_tableIn (tgt := 519) (off := 480) hx hb dL_law_39 (by rw [c_110]; decide) (by rw [c_110]; decide) (by rw [c_110]; rfl) (by decide) ?_
        refine lv_aload_n hx hb dL_law_519 rfl (lv_at hl 2 rfl) ?_
        refine lv_aload_n hx hb dL_law_520 rfl (lv_at hl 1 rfl) ?_
        refine lv_iload hx hb dL_law_521 (lv_at hl 0 rfl) ?_
        refine lv_iconst (v := 1) hx hb dL_law_523 (by decide) ?_
        refine lv_iadd hx hb dL_law_524 ?_
        obtain ⟨hb_111, h⟩ := h
        refine zw_sld hx hb hX hbl hS0 hW hb_111 dL_law_525 ?_
        refine lv_aload_n hx hb dL_law_526 rfl (lv_at hl 1 rfl) ?_
        refine lv_iload hx hb dL_law_527 (lv_at hl 0 rfl) ?_
        refine lv_iconst (v := 2) hx hb dL_law_529 (by decide) ?_
        refine lv_iadd hx hb dL_law_530 ?_
        obtain ⟨hb_112, h⟩ := h
        refine zw_sld hx hb hX hbl hS0 hW hb_112 dL_law_531 ?_
        refine lv_aload_n hx hb dL_law_532 rfl (lv_at hl 4 rfl) ?_
        obtain ⟨hb_115, h⟩ := h
        refine zs_i (vx_runSW (As := [.ref S0, .int (xs (i + 1).toNatClampNeg), .int (xs (i + 2).toNatClampNeg), .ref (S0 + 29)]) (rest := []) ⟨hx, hb, hml, hown, hts⟩ (cL_request_ok l hlt D S0 (lG D S0 mm (fun _ => 0)) k o (xs (i + 1).toNatClampNeg) (xs (i + 2).toNatClampNeg) _ h) (vx_cwSW 4 hts gL_law_L_request rfl rfl rfl (by decide +kernel) ⟨Nat.le_of_ble_eq_true rfl, Nat.le_of_ble_eq_true rfl⟩) (zpreS hE hs (hW.mono lo_in)) rfl rfl hl.1 rfl (lv_room (Nat.le_of_ble_eq_true rfl)) dL_law_533 ⟨by show _ ≤ 601024; omega, by show _ ≤ 7293034; omega⟩) hW (fun r113 u114 H locs _ h hW => ?_)
        replace hW := hW.mono lo_out
        refine W.widen (k := n + 2) (n := 8 * (n + 2)) (by omega) (by omega) ?_
        refine lv_istore (lv' := [(5, .int r113), (4, .int i), (0, .ref b), (1, .ref S0), (2, .ref (S0 + 9)), (3, .ref (S0 + 29))]) hx hb dL_law_536 hl (by decide) rfl (fun ls hl => ?_)
        refine lv_aload_n hx hb dL_law_538 rfl (lv_at hl 4 rfl) ?_
        refine lv_aload_n hx hb dL_law_539 rfl (lv_at hl 2 rfl) ?_
        refine lv_iload hx hb dL_law_540 (lv_at hl 1 rfl) ?_
        refine lv_iconst (v := 1) hx hb dL_law_542 (by decide) ?_
        refine lv_iadd hx hb dL_law_543 ?_
        obtain ⟨hb_118, h⟩ := h
        refine zw_sld hx hb hX hbl hS0 hW hb_118 dL_law_544 ?_
        refine lv_aload_n hx hb dL_law_545 rfl (lv_at hl 2 rfl) ?_
        refine lv_iload hx hb dL_law_546 (lv_at hl 1 rfl) ?_
        refine lv_iconst (v := 2) hx hb dL_law_548 (by decide) ?_
        refine lv_iadd hx hb dL_law_549 ?_
        obtain ⟨hb_119, h⟩ := h
        refine zw_sld hx hb hX hbl hS0 hW hb_119 dL_law_550 ?_
        refine zs_i (va_runV (As := [.int (xs (i + 1).toNatClampNeg), .int (xs (i + 2).toNatClampNeg)]) (rest := []) ⟨hx, hb, hml, hown, hts⟩ (cX6_request_ok l hlt D S0 (xF D S0 (lG D S0 mm u114.2) u114.1) mm (xs (i + 1).toNatClampNeg) (xs (i + 2).toNatClampNeg) _ h) (cwV 2 hts gL_law_X6_request rfl rfl rfl (by decide +kernel) ⟨Nat.le_of_ble_eq_true rfl, Nat.le_of_ble_eq_true rfl⟩) (zpreV (q := (RX6, TX6, 24)) hE hs (hW.mono lm_in) mC_M rfl) rfl rfl hl.1 rfl (lv_room (Nat.le_of_ble_eq_true rfl)) dL_law_551 ⟨by show _ ≤ 601024; omega, by show _ ≤ 7293034; omega⟩) hW (fun r120 m121 H1 locs1 hz h hW1 => ?_)
        replace hW := lm_out hW hW1 hz
        clear hW1
        refine W.widen (k := n + 2) (n := 8 * (n + 2)) (by omega) (by omega) ?_
        refine lv_istore (lv' := [(6, .int r120), (5, .int r113), (4, .int i), (0, .ref b), (1, .ref S0), (2, .ref (S0 + 9)), (3, .ref (S0 + 29))]) hx hb dL_law_554 hl (by decide) rfl (fun ls hl => ?_)
        refine lv_aload_n hx hb dL_law_556 rfl (lv_at hl 5 rfl) ?_
        refine zs_i (va_runV (As := []) (rest := []) ⟨hx, hb, hml, hown, hts⟩ (cX6_thrown_ok l hlt D S0 (xF D S0 (lG D S0 m121 u114.2) u114.1) m121 _ h) (cwV 0 hts gL_law_X6_thrown rfl rfl rfl (by decide +kernel) ⟨Nat.le_of_ble_eq_true rfl, Nat.le_of_ble_eq_true rfl⟩) (zpreV (q := (RX6, TX6, 24)) hE hs (hW.mono lm_in) mC_M rfl) rfl rfl hl.1 rfl (lv_room (Nat.le_of_ble_eq_true rfl)) dL_law_557 ⟨by show _ ≤ 601024; omega, by show _ ≤ 7293034; omega⟩) hW (fun r122 m123 H1 locs1 hz h hW1 => ?_)
        replace hW := lm_out hW hW1 hz
        clear hW1
        refine W.widen (k := n + 2) (n := 8 * (n + 2)) (by omega) (by omega) ?_
        refine lv_iload hx hb dL_law_560 (lv_at hl 1 rfl) ?_
        refine lv_icmp_eq (tgt := 567) hx hb dL_law_562 (by decide) (fun c_124 => ?_) (fun c_124 => ?_)
        · replace h := h.1 c_124
          refine lv_iload hx hb dL_law_567 (lv_at hl 1 rfl) ?_
          refine lv_if_ne (tgt := 584) hx hb dL_law_569 (by decide) (fun c_125 => ?_) (fun c_125 => ?_)
          · replace h := h.2 c_125
            refine lv_goto (tgt := 1129) hx hb dL_law_584 (by decide) ?_
            refine lv_iinc (v := (i + 3)) (lv' := [(4, .int (i + 3)), (6, .int r120), (5, .int r113), (0, .ref b), (1, .ref S0), (2, .ref (S0 + 9)), (3, .ref (S0 + 29))]) hx hb dL_law_1129 hl (k := 2) rfl rfl (by decide) rfl (fun ls hl => ?_)
            refine lv_goto (tgt := 23) hx hb dL_law_1132 (by decide) ?_
            exact ih (i + 3) (n + 2) u114.1 m123 u114.2 _ _ _ h hW (lv_sub hl [0, 3, 4, 5, 6] rfl)
          · replace h := h.1 c_125
            refine lv_aload_n hx hb dL_law_572 rfl (lv_at hl 6 rfl) ?_
            refine lv_iconst (v := 0) hx hb dL_law_573 (by decide) ?_
            refine zw_lald hx hb hE.1 hW lo_C (by unfold vp_in; decide) dL_law_574 ?_
            refine lv_iload hx hb dL_law_575 (lv_at hl 0 rfl) ?_
            refine lv_i2l hx hb dL_law_577 rfl ?_
            refine W.lcmp hx hb dL_law_578 ?_
            refine lv_if_eq (tgt := 584) hx hb dL_law_579 (by decide) (fun c_126 => ?_) (fun c_126 => ?_)
            · replace h := h.1 c_126
              refine lv_goto (tgt := 1129) hx hb dL_law_584 (by decide) ?_
              refine lv_iinc (v := (i + 3)) (lv' := [(4, .int (i + 3)), (6, .int r120), (5, .int r113), (0, .ref b), (1, .ref S0), (2, .ref (S0 + 9)), (3, .ref (S0 + 29))]) hx hb dL_law_1129 hl (k := 2) rfl rfl (by decide) rfl (fun ls hl => ?_)
              refine lv_goto (tgt := 23) hx hb dL_law_1132 (by decide) ?_
              exact ih (i + 3) (n + 2) u114.1 m123 u114.2 _ _ _ h hW (lv_sub hl [0, 3, 4, 5, 6] rfl)
            · replace h := h.2 c_126
              refine lv_iconst (v := 0) hx hb dL_law_582 (by decide) ?_
              exact h.elim
        · replace h := h.2 c_124
          refine lv_iconst (v := 0) hx hb dL_law_565 (by decide) ?_
          exact h.elim
      replace h := h.2
      refine (Classical.em (((xs i.toNatClampNeg) &&& 31) = 8)).elim (fun c_127 => ?_) (fun c_127 => ?_)
      · replace h := h.1 c_127
        unfold wL_case8 at h
        refine lv_tableIn (tgt := 587) (off := 548) hx hb dL_law_39 (by rw [c_127]; decide) (by rw [c_127]; decide) (by rw [c_127]; rfl) (by decide) ?_
        refine lv_aload_n hx hb dL_law_587 rfl (lv_at hl 2 rfl) ?_
        refine lv_aload_n hx hb dL_law_588 rfl (lv_at hl 1 rfl) ?_
        refine lv_iload hx hb dL_law_589 (lv_at hl 0 rfl) ?_
        refine lv_iconst (v := 1) hx hb dL_law_591 (by decide) ?_
        refine lv_iadd hx hb dL_law_592 ?_
        obtain ⟨hb_128, h⟩ := h
        refine zw_sld hx hb hX hbl hS0 hW hb_128 dL_law_593 ?_
        refine lv_aload_n hx hb dL_law_594 rfl (lv_at hl 4 rfl) ?_
        obtain ⟨hb_131, h⟩ := h
        refine zs_i (vx_runSW (As := [.ref S0, .int (xs (i + 1).toNatClampNeg), .ref (S0 + 29)]) (rest := []) ⟨hx, hb, hml, hown, hts⟩ (cL_state_ok l hlt D S0 (lG D S0 mm (fun _ => 0)) k o (xs (i + 1).toNatClampNeg) _ h) (vx_cwSW 3 hts gL_law_L_state rfl rfl rfl (by decide +kernel) ⟨Nat.le_of_ble_eq_true rfl, Nat.le_of_ble_eq_true rfl⟩) (zpreS hE hs (hW.mono lo_in)) rfl rfl hl.1 rfl (lv_room (Nat.le_of_ble_eq_true rfl)) dL_law_595 ⟨by show _ ≤ 601024; omega, by show _ ≤ 7293034; omega⟩) hW (fun r129 u130 H locs _ h hW => ?_)
        replace hW := hW.mono lo_out
        refine W.widen (k := n + 1) (n := 8 * (n + 1)) (by omega) (by omega) ?_
        refine lv_istore (lv' := [(5, .int r129), (4, .int i), (0, .ref b), (1, .ref S0), (2, .ref (S0 + 9)), (3, .ref (S0 + 29))]) hx hb dL_law_598 hl (by decide) rfl (fun ls hl => ?_)
        refine lv_aload_n hx hb dL_law_600 rfl (lv_at hl 4 rfl) ?_
        refine lv_aload_n hx hb dL_law_601 rfl (lv_at hl 2 rfl) ?_
        refine lv_iload hx hb dL_law_602 (lv_at hl 1 rfl) ?_
        refine lv_iconst (v := 1) hx hb dL_law_604 (by decide) ?_
        refine lv_iadd hx hb dL_law_605 ?_
        obtain ⟨hb_134, h⟩ := h
        refine zw_sld hx hb hX hbl hS0 hW hb_134 dL_law_606 ?_
        refine zs_i (va_runV (As := [.int (xs (i + 1).toNatClampNeg)]) (rest := []) ⟨hx, hb, hml, hown, hts⟩ (cX6_state_ok l hlt D S0 (xF D S0 (lG D S0 mm u130.2) u130.1) mm (xs (i + 1).toNatClampNeg) _ h) (cwV 1 hts gL_law_X6_state rfl rfl rfl (by decide +kernel) ⟨Nat.le_of_ble_eq_true rfl, Nat.le_of_ble_eq_true rfl⟩) (zpreV (q := (RX6, TX6, 24)) hE hs (hW.mono lm_in) mC_M rfl) rfl rfl hl.1 rfl (lv_room (Nat.le_of_ble_eq_true rfl)) dL_law_607 ⟨by show _ ≤ 601024; omega, by show _ ≤ 7293034; omega⟩) hW (fun r135 m136 H1 locs1 hz h hW1 => ?_)
        replace hW := lm_out hW hW1 hz
        clear hW1
        refine W.widen (k := n + 1) (n := 8 * (n + 1)) (by omega) (by omega) ?_
        refine lv_istore (lv' := [(6, .int r135), (5, .int r129), (4, .int i), (0, .ref b), (1, .ref S0), (2, .ref (S0 + 9)), (3, .ref (S0 + 29))]) hx hb dL_law_610 hl (by decide) rfl (fun ls hl => ?_)
        refine lv_aload_n hx hb dL_law_612 rfl (lv_at hl 5 rfl) ?_
        refine zs_i (va_runV (As := []) (rest := []) ⟨hx, hb, hml, hown, hts⟩ (cX6_thrown_ok l hlt D S0 (xF D S0 (lG D S0 m136 u130.2) u130.1) m136 _ h) (cwV 0 hts gL_law_X6_thrown rfl rfl rfl (by decide +kernel) ⟨Nat.le_of_ble_eq_true rfl, Nat.le_of_ble_eq_true rfl⟩) (zpreV (q := (RX6, TX6, 24)) hE hs (hW.mono lm_in) mC_M rfl) rfl rfl hl.1 rfl (lv_room (Nat.le_of_ble_eq_true rfl)) dL_law_613 ⟨by show _ ≤ 601024; omega, by show _ ≤ 7293034; omega⟩) hW (fun r137 m138 H1 locs1 hz h hW1 => ?_)
        replace hW := lm_out hW hW1 hz
        clear hW1
        refine W.widen (k := n + 1) (n := 8 * (n + 1)) (by omega) (by omega) ?_
        refine lv_iload hx hb dL_law_616 (lv_at hl 1 rfl) ?_
        refine lv_icmp_eq (tgt := 623) hx hb dL_law_618 (by decide) (fun c_139 => ?_) (fun c_139 => ?_)
        · replace h := h.1 c_139
          refine lv_iload hx hb dL_law_623 (lv_at hl 1 rfl) ?_
          refine lv_if_ne (tgt := 640) hx hb dL_law_625 (by decide) (fun c_140 => ?_) (fun c_140 => ?_)
          · replace h := h.2 c_140
            refine lv_goto (tgt := 1129) hx hb dL_law_640 (by decide) ?_
            refine lv_iinc (v := (i + 3)) (lv' := [(4, .int (i + 3)), (6, .int r135), (5, .int r129), (0, .ref b), (1, .ref S0), (2, .ref (S0 + 9)), (3, .ref (S0 + 29))]) hx hb dL_law_1129 hl (k := 2) rfl rfl (by decide) rfl (fun ls hl => ?_)
            refine lv_goto (tgt := 23) hx hb dL_law_1132 (by decide) ?_
            exact ih (i + 3) (n + 1) u130.1 m138 u130.2 _ _ _ h hW (lv_sub hl [0, 3, 4, 5, 6] rfl)
          · replace h := h.1 c_140
            refine lv_aload_n hx hb dL_law_628 rfl (lv_at hl 6 rfl) ?_
            refine lv_iconst (v := 0) hx hb dL_law_629 (by decide) ?_
            refine zw_lald hx hb hE.1 hW lo_C (by unfold vp_in; decide) dL_law_630 ?_
            refine lv_iload hx hb dL_law_631 (lv_at hl 0 rfl) ?_
            refine lv_i2l hx hb dL_law_633 rfl ?_
            refine W.lcmp hx hb dL_law_634 ?_
            refine lv_if_eq (tgt := 640) hx hb dL_law_635 (by decide) (fun c_141 => ?_) (fun c_141 => ?_)
            · replace h := h.1 c_141
              refine lv_goto (tgt := 1129) hx hb dL_law_640 (by decide) ?_
              refine lv_iinc (v := (i + 3)) (lv' := [(4, .int (i + 3)), (6, .int r135), (5, .int r129), (0, .ref b), (1, .ref S0), (2, .ref (S0 + 9)), (3, .ref (S0 + 29))]) hx hb dL_law_1129 hl (k := 2) rfl rfl (by decide) rfl (fun ls hl => ?_)
              refine lv_goto (tgt := 23) hx hb dL_law_1132 (by decide) ?_
              exact ih (i + 3) (n + 1) u130.1 m138 u130.2 _ _ _ h hW (lv_sub hl [0, 3, 4, 5, 6] rfl)
            · replace h := h.2 c_141
              refine lv_iconst (v := 0) hx hb dL_law_638 (by decide) ?_
              exact h.elim
        · replace h := h.2 c_139
          refine lv_iconst (v := 0) hx hb dL_law_621 (by decide) ?_
          exact h.elim
      replace h := h.2
      refine (Classical.em (((xs i.toNatClampNeg) &&& 31) = 9)).elim (fun c_142 => ?_) (fun c_142 => ?_)
      · replace h := h.1 c_142
        unfold wL_case9 at h
        refine lv_tableIn (tgt := 643) (off := 604) hx hb dL_law_39 (by rw [c_142]; decide) (by rw [c_142]; decide) (by rw [c_142]; rfl) (by decide) ?_
        refine lv_aload_n hx hb dL_law_643 rfl (lv_at hl 2 rfl) ?_
        refine lv_aload_n hx hb dL_law_644 rfl (lv_at hl 1 rfl) ?_
        refine lv_iload hx hb dL_law_645 (lv_at hl 0 rfl) ?_
        refine lv_iconst (v := 1) hx hb dL_law_647 (by decide) ?_
        refine lv_iadd hx hb dL_law_648 ?_
        obtain ⟨hb_143, h⟩ := h
        refine zw_sld hx hb hX hbl hS0 hW hb_143 dL_law_649 ?_
        refine lv_aload_n hx hb dL_law_650 rfl (lv_at hl 4 rfl) ?_
        obtain ⟨hb_146, h⟩ := h
        refine zs_i (vx_runSW (As := [.ref S0, .int (xs (i + 1).toNatClampNeg), .ref (S0 + 29)]) (rest := []) ⟨hx, hb, hml, hown, hts⟩ (cL_copyOf_ok l hlt D S0 (lG D S0 mm (fun _ => 0)) k o (xs (i + 1).toNatClampNeg) _ h) (vx_cwSW 3 hts gL_law_L_copyOf rfl rfl rfl (by decide +kernel) ⟨Nat.le_of_ble_eq_true rfl, Nat.le_of_ble_eq_true rfl⟩) (zpreS hE hs (hW.mono lo_in)) rfl rfl hl.1 rfl (lv_room (Nat.le_of_ble_eq_true rfl)) dL_law_651 ⟨by show _ ≤ 601024; omega, by show _ ≤ 7293034; omega⟩) hW (fun r144 u145 H locs _ h hW => ?_)
        replace hW := hW.mono lo_out
        refine W.widen (k := n + 1) (n := 8 * (n + 1)) (by omega) (by omega) ?_
        refine lv_istore (lv' := [(5, .int r144), (4, .int i), (0, .ref b), (1, .ref S0), (2, .ref (S0 + 9)), (3, .ref (S0 + 29))]) hx hb dL_law_654 hl (by decide) rfl (fun ls hl => ?_)
        refine lv_aload_n hx hb dL_law_656 rfl (lv_at hl 4 rfl) ?_
        refine lv_aload_n hx hb dL_law_657 rfl (lv_at hl 2 rfl) ?_
        refine lv_iload hx hb dL_law_658 (lv_at hl 1 rfl) ?_
        refine lv_iconst (v := 1) hx hb dL_law_660 (by decide) ?_
        refine lv_iadd hx hb dL_law_661 ?_
        obtain ⟨hb_149, h⟩ := h
        refine zw_sld hx hb hX hbl hS0 hW hb_149 dL_law_662 ?_
        refine zs_i (va_runV (As := [.int (xs (i + 1).toNatClampNeg)]) (rest := []) ⟨hx, hb, hml, hown, hts⟩ (cX6_copyOf_ok l hlt D S0 (xF D S0 (lG D S0 mm u145.2) u145.1) mm (xs (i + 1).toNatClampNeg) _ h) (cwV 1 hts gL_law_X6_copyOf rfl rfl rfl (by decide +kernel) ⟨Nat.le_of_ble_eq_true rfl, Nat.le_of_ble_eq_true rfl⟩) (zpreV (q := (RX6, TX6, 24)) hE hs (hW.mono lm_in) mC_M rfl) rfl rfl hl.1 rfl (lv_room (Nat.le_of_ble_eq_true rfl)) dL_law_663 ⟨by show _ ≤ 601024; omega, by show _ ≤ 7293034; omega⟩) hW (fun r150 m151 H1 locs1 hz h hW1 => ?_)
        replace hW := lm_out hW hW1 hz
        clear hW1
        refine W.widen (k := n + 1) (n := 8 * (n + 1)) (by omega) (by omega) ?_
        refine lv_istore (lv' := [(6, .int r150), (5, .int r144), (4, .int i), (0, .ref b), (1, .ref S0), (2, .ref (S0 + 9)), (3, .ref (S0 + 29))]) hx hb dL_law_666 hl (by decide) rfl (fun ls hl => ?_)
        refine lv_aload_n hx hb dL_law_668 rfl (lv_at hl 5 rfl) ?_
        refine zs_i (va_runV (As := []) (rest := []) ⟨hx, hb, hml, hown, hts⟩ (cX6_thrown_ok l hlt D S0 (xF D S0 (lG D S0 m151 u145.2) u145.1) m151 _ h) (cwV 0 hts gL_law_X6_thrown rfl rfl rfl (by decide +kernel) ⟨Nat.le_of_ble_eq_true rfl, Nat.le_of_ble_eq_true rfl⟩) (zpreV (q := (RX6, TX6, 24)) hE hs (hW.mono lm_in) mC_M rfl) rfl rfl hl.1 rfl (lv_room (Nat.le_of_ble_eq_true rfl)) dL_law_669 ⟨by show _ ≤ 601024; omega, by show _ ≤ 7293034; omega⟩) hW (fun r152 m153 H1 locs1 hz h hW1 => ?_)
        replace hW := lm_out hW hW1 hz
        clear hW1
        refine W.widen (k := n + 1) (n := 8 * (n + 1)) (by omega) (by omega) ?_
        refine lv_iload hx hb dL_law_672 (lv_at hl 1 rfl) ?_
        refine lv_icmp_eq (tgt := 679) hx hb dL_law_674 (by decide) (fun c_154 => ?_) (fun c_154 => ?_)
        · replace h := h.1 c_154
          refine lv_iload hx hb dL_law_679 (lv_at hl 1 rfl) ?_
          refine lv_if_ne (tgt := 696) hx hb dL_law_681 (by decide) (fun c_155 => ?_) (fun c_155 => ?_)
          · replace h := h.2 c_155
            refine lv_goto (tgt := 1129) hx hb dL_law_696 (by decide) ?_
            refine lv_iinc (v := (i + 3)) (lv' := [(4, .int (i + 3)), (6, .int r150), (5, .int r144), (0, .ref b), (1, .ref S0), (2, .ref (S0 + 9)), (3, .ref (S0 + 29))]) hx hb dL_law_1129 hl (k := 2) rfl rfl (by decide) rfl (fun ls hl => ?_)
            refine lv_goto (tgt := 23) hx hb dL_law_1132 (by decide) ?_
            exact ih (i + 3) (n + 1) u145.1 m153 u145.2 _ _ _ h hW (lv_sub hl [0, 3, 4, 5, 6] rfl)
          · replace h := h.1 c_155
            refine lv_aload_n hx hb dL_law_684 rfl (lv_at hl 6 rfl) ?_
            refine lv_iconst (v := 0) hx hb dL_law_685 (by decide) ?_
            refine zw_lald hx hb hE.1 hW lo_C (by unfold vp_in; decide) dL_law_686 ?_
            refine lv_iload hx hb dL_law_687 (lv_at hl 0 rfl) ?_
            refine lv_i2l hx hb dL_law_689 rfl ?_
            refine W.lcmp hx hb dL_law_690 ?_
            refine lv_if_eq (tgt := 696) hx hb dL_law_691 (by decide) (fun c_156 => ?_) (fun c_156 => ?_)
            · replace h := h.1 c_156
              refine lv_goto (tgt := 1129) hx hb dL_law_696 (by decide) ?_
              refine lv_iinc (v := (i + 3)) (lv' := [(4, .int (i + 3)), (6, .int r150), (5, .int r144), (0, .ref b), (1, .ref S0), (2, .ref (S0 + 9)), (3, .ref (S0 + 29))]) hx hb dL_law_1129 hl (k := 2) rfl rfl (by decide) rfl (fun ls hl => ?_)
              refine lv_goto (tgt := 23) hx hb dL_law_1132 (by decide) ?_
              exact ih (i + 3) (n + 1) u145.1 m153 u145.2 _ _ _ h hW (lv_sub hl [0, 3, 4, 5, 6] rfl)
            · replace h := h.2 c_156
              refine lv_iconst (v := 0) hx hb dL_law_694 (by decide) ?_
              exact h.elim
        · replace h := h.2 c_154
          refine lv_iconst (v := 0) hx hb dL_law_677 (by decide) ?_
          exact h.elim
      replace h := h.2
      refine (Classical.em (((xs i.toNatClampNeg) &&& 31) = 10)).elim (fun c_157 => ?_) (fun c_157 => ?_)
      · replace h := h.1 c_157
        unfold wL_case10 at h
        refine lv_tableIn (tgt := 699) (off := 660) hx hb dL_law_39 (by rw [c_157]; decide) (by rw [c_157]; decide) (by rw [c_157]; rfl) (by decide) ?_
        refine lv_aload_n hx hb dL_law_699 rfl (lv_at hl 2 rfl) ?_
        refine lv_aload_n hx hb dL_law_700 rfl (lv_at hl 1 rfl) ?_
        refine lv_iload hx hb dL_law_701 (lv_at hl 0 rfl) ?_
        refine lv_iconst (v := 1) hx hb dL_law_703 (by decide) ?_
        refine lv_iadd hx hb dL_law_704 ?_
        obtain ⟨hb_158, h⟩ := h
        refine zw_sld hx hb hX hbl hS0 hW hb_158 dL_law_705 ?_
        refine lv_aload_n hx hb dL_law_706 rfl (lv_at hl 4 rfl) ?_
        obtain ⟨hb_161, h⟩ := h
        refine zs_i (vx_runSW (As := [.ref S0, .int (xs (i + 1).toNatClampNeg), .ref (S0 + 29)]) (rest := []) ⟨hx, hb, hml, hown, hts⟩ (cL_due_ok l hlt D S0 (lG D S0 mm (fun _ => 0)) k o (xs (i + 1).toNatClampNeg) _ h) (vx_cwSW 3 hts gL_law_L_due rfl rfl rfl (by decide +kernel) ⟨Nat.le_of_ble_eq_true rfl, Nat.le_of_ble_eq_true rfl⟩) (zpreS hE hs (hW.mono lo_in)) rfl rfl hl.1 rfl (lv_room (Nat.le_of_ble_eq_true rfl)) dL_law_707 ⟨by show _ ≤ 601024; omega, by show _ ≤ 7293034; omega⟩) hW (fun r159 u160 H locs _ h hW => ?_)
        replace hW := hW.mono lo_out
        refine W.widen (k := n + 2) (n := 8 * (n + 2)) (by omega) (by omega) ?_
        refine lv_istore (lv' := [(5, .int r159), (4, .int i), (0, .ref b), (1, .ref S0), (2, .ref (S0 + 9)), (3, .ref (S0 + 29))]) hx hb dL_law_710 hl (by decide) rfl (fun ls hl => ?_)
        refine lv_aload_n hx hb dL_law_712 rfl (lv_at hl 4 rfl) ?_
        refine lv_aload_n hx hb dL_law_713 rfl (lv_at hl 2 rfl) ?_
        refine lv_iload hx hb dL_law_714 (lv_at hl 1 rfl) ?_
        refine lv_iconst (v := 1) hx hb dL_law_716 (by decide) ?_
        refine lv_iadd hx hb dL_law_717 ?_
        obtain ⟨hb_164, h⟩ := h
        refine zw_sld hx hb hX hbl hS0 hW hb_164 dL_law_718 ?_
        refine zs_i (va_runV (As := [.int (xs (i + 1).toNatClampNeg)]) (rest := []) ⟨hx, hb, hml, hown, hts⟩ (cX6_due_ok l hlt D S0 (xF D S0 (lG D S0 mm u160.2) u160.1) mm (xs (i + 1).toNatClampNeg) _ h) (cwV 1 hts gL_law_X6_due rfl rfl rfl (by decide +kernel) ⟨Nat.le_of_ble_eq_true rfl, Nat.le_of_ble_eq_true rfl⟩) (zpreV (q := (RX6, TX6, 24)) hE hs (hW.mono lm_in) mC_M rfl) rfl rfl hl.1 rfl (lv_room (Nat.le_of_ble_eq_true rfl)) dL_law_719 ⟨by show _ ≤ 601024; omega, by show _ ≤ 7293034; omega⟩) hW (fun r165 m166 H1 locs1 hz h hW1 => ?_)
        replace hW := lm_out hW hW1 hz
        clear hW1
        refine W.widen (k := n + 2) (n := 8 * (n + 2)) (by omega) (by omega) ?_
        refine lv_istore (lv' := [(6, .int r165), (5, .int r159), (4, .int i), (0, .ref b), (1, .ref S0), (2, .ref (S0 + 9)), (3, .ref (S0 + 29))]) hx hb dL_law_722 hl (by decide) rfl (fun ls hl => ?_)
        refine lv_aload_n hx hb dL_law_724 rfl (lv_at hl 5 rfl) ?_
        refine zs_i (va_runV (As := []) (rest := []) ⟨hx, hb, hml, hown, hts⟩ (cX6_thrown_ok l hlt D S0 (xF D S0 (lG D S0 m166 u160.2) u160.1) m166 _ h) (cwV 0 hts gL_law_X6_thrown rfl rfl rfl (by decide +kernel) ⟨Nat.le_of_ble_eq_true rfl, Nat.le_of_ble_eq_true rfl⟩) (zpreV (q := (RX6, TX6, 24)) hE hs (hW.mono lm_in) mC_M rfl) rfl rfl hl.1 rfl (lv_room (Nat.le_of_ble_eq_true rfl)) dL_law_725 ⟨by show _ ≤ 601024; omega, by show _ ≤ 7293034; omega⟩) hW (fun r167 m168 H1 locs1 hz h hW1 => ?_)
        replace hW := lm_out hW hW1 hz
        clear hW1
        refine W.widen (k := n + 2) (n := 8 * (n + 2)) (by omega) (by omega) ?_
        refine lv_iload hx hb dL_law_728 (lv_at hl 1 rfl) ?_
        refine lv_icmp_eq (tgt := 735) hx hb dL_law_730 (by decide) (fun c_169 => ?_) (fun c_169 => ?_)
        · replace h := h.1 c_169
          refine lv_iload hx hb dL_law_735 (lv_at hl 1 rfl) ?_
          refine lv_if_ne (tgt := 752) hx hb dL_law_737 (by decide) (fun c_170 => ?_) (fun c_170 => ?_)
          · replace h := h.2 c_170
            refine lv_goto (tgt := 1129) hx hb dL_law_752 (by decide) ?_
            refine lv_iinc (v := (i + 3)) (lv' := [(4, .int (i + 3)), (6, .int r165), (5, .int r159), (0, .ref b), (1, .ref S0), (2, .ref (S0 + 9)), (3, .ref (S0 + 29))]) hx hb dL_law_1129 hl (k := 2) rfl rfl (by decide) rfl (fun ls hl => ?_)
            refine lv_goto (tgt := 23) hx hb dL_law_1132 (by decide) ?_
            exact ih (i + 3) (n + 2) u160.1 m168 u160.2 _ _ _ h hW (lv_sub hl [0, 3, 4, 5, 6] rfl)
          · replace h := h.1 c_170
            refine lv_aload_n hx hb dL_law_740 rfl (lv_at hl 6 rfl) ?_
            refine lv_iconst (v := 0) hx hb dL_law_741 (by decide) ?_
            refine zw_lald hx hb hE.1 hW lo_C (by unfold vp_in; decide) dL_law_742 ?_
            refine lv_iload hx hb dL_law_743 (lv_at hl 0 rfl) ?_
            refine lv_i2l hx hb dL_law_745 rfl ?_
            refine W.lcmp hx hb dL_law_746 ?_
            refine lv_if_eq (tgt := 752) hx hb dL_law_747 (by decide) (fun c_171 => ?_) (fun c_171 => ?_)
            · replace h := h.1 c_171
              refine lv_goto (tgt := 1129) hx hb dL_law_752 (by decide) ?_
              refine lv_iinc (v := (i + 3)) (lv' := [(4, .int (i + 3)), (6, .int r165), (5, .int r159), (0, .ref b), (1, .ref S0), (2, .ref (S0 + 9)), (3, .ref (S0 + 29))]) hx hb dL_law_1129 hl (k := 2) rfl rfl (by decide) rfl (fun ls hl => ?_)
              refine lv_goto (tgt := 23) hx hb dL_law_1132 (by decide) ?_
              exact ih (i + 3) (n + 2) u160.1 m168 u160.2 _ _ _ h hW (lv_sub hl [0, 3, 4, 5, 6] rfl)
            · replace h := h.2 c_171
              refine lv_iconst (v := 0) hx hb dL_law_750 (by decide) ?_
              exact h.elim
        · replace h := h.2 c_169
          refine lv_iconst (v := 0) hx hb dL_law_733 (by decide) ?_
          exact h.elim
      replace h := h.2
      refine (Classical.em (((xs i.toNatClampNeg) &&& 31) = 11)).elim (fun c_172 => ?_) (fun c_172 => ?_)
      · replace h := h.1 c_172
        unfold wL_case11 at h
        refine lv_tableIn (tgt := 755) (off := 716) hx hb dL_law_39 (by rw [c_172]; decide) (by rw [c_172]; decide) (by rw [c_172]; rfl) (by decide) ?_
        refine lv_aload_n hx hb dL_law_755 rfl (lv_at hl 2 rfl) ?_
        refine lv_aload_n hx hb dL_law_756 rfl (lv_at hl 1 rfl) ?_
        refine lv_iload hx hb dL_law_757 (lv_at hl 0 rfl) ?_
        refine lv_iconst (v := 1) hx hb dL_law_759 (by decide) ?_
        refine lv_iadd hx hb dL_law_760 ?_
        obtain ⟨hb_173, h⟩ := h
        refine zw_sld hx hb hX hbl hS0 hW hb_173 dL_law_761 ?_
        refine lv_aload_n hx hb dL_law_762 rfl (lv_at hl 4 rfl) ?_
        obtain ⟨hb_176, h⟩ := h
        refine zs_i (vx_runSW (As := [.ref S0, .int (xs (i + 1).toNatClampNeg), .ref (S0 + 29)]) (rest := []) ⟨hx, hb, hml, hown, hts⟩ (cL_renew_ok l hlt D S0 (lG D S0 mm (fun _ => 0)) k o (xs (i + 1).toNatClampNeg) _ h) (vx_cwSW 3 hts gL_law_L_renew rfl rfl rfl (by decide +kernel) ⟨Nat.le_of_ble_eq_true rfl, Nat.le_of_ble_eq_true rfl⟩) (zpreS hE hs (hW.mono lo_in)) rfl rfl hl.1 rfl (lv_room (Nat.le_of_ble_eq_true rfl)) dL_law_763 ⟨by show _ ≤ 601024; omega, by show _ ≤ 7293034; omega⟩) hW (fun r174 u175 H locs _ h hW => ?_)
        replace hW := hW.mono lo_out
        refine W.widen (k := n + 2) (n := 8 * (n + 2)) (by omega) (by omega) ?_
        refine lv_istore (lv' := [(5, .int r174), (4, .int i), (0, .ref b), (1, .ref S0), (2, .ref (S0 + 9)), (3, .ref (S0 + 29))]) hx hb dL_law_766 hl (by decide) rfl (fun ls hl => ?_)
        refine lv_aload_n hx hb dL_law_768 rfl (lv_at hl 4 rfl) ?_
        refine lv_aload_n hx hb dL_law_769 rfl (lv_at hl 2 rfl) ?_
        refine lv_iload hx hb dL_law_770 (lv_at hl 1 rfl) ?_
        refine lv_iconst (v := 1) hx hb dL_law_772 (by decide) ?_
        refine lv_iadd hx hb dL_law_773 ?_
        obtain ⟨hb_179, h⟩ := h
        refine zw_sld hx hb hX hbl hS0 hW hb_179 dL_law_774 ?_
        refine zs_i (va_runV (As := [.int (xs (i + 1).toNatClampNeg)]) (rest := []) ⟨hx, hb, hml, hown, hts⟩ (cX6_renew_ok l hlt D S0 (xF D S0 (lG D S0 mm u175.2) u175.1) mm (xs (i + 1).toNatClampNeg) _ h) (cwV 1 hts gL_law_X6_renew rfl rfl rfl (by decide +kernel) ⟨Nat.le_of_ble_eq_true rfl, Nat.le_of_ble_eq_true rfl⟩) (zpreV (q := (RX6, TX6, 24)) hE hs (hW.mono lm_in) mC_M rfl) rfl rfl hl.1 rfl (lv_room (Nat.le_of_ble_eq_true rfl)) dL_law_775 ⟨by show _ ≤ 601024; omega, by show _ ≤ 7293034; omega⟩) hW (fun r180 m181 H1 locs1 hz h hW1 => ?_)
        replace hW := lm_out hW hW1 hz
        clear hW1
        refine W.widen (k := n + 2) (n := 8 * (n + 2)) (by omega) (by omega) ?_
        refine lv_istore (lv' := [(6, .int r180), (5, .int r174), (4, .int i), (0, .ref b), (1, .ref S0), (2, .ref (S0 + 9)), (3, .ref (S0 + 29))]) hx hb dL_law_778 hl (by decide) rfl (fun ls hl => ?_)
        refine lv_aload_n hx hb dL_law_780 rfl (lv_at hl 5 rfl) ?_
        refine zs_i (va_runV (As := []) (rest := []) ⟨hx, hb, hml, hown, hts⟩ (cX6_thrown_ok l hlt D S0 (xF D S0 (lG D S0 m181 u175.2) u175.1) m181 _ h) (cwV 0 hts gL_law_X6_thrown rfl rfl rfl (by decide +kernel) ⟨Nat.le_of_ble_eq_true rfl, Nat.le_of_ble_eq_true rfl⟩) (zpreV (q := (RX6, TX6, 24)) hE hs (hW.mono lm_in) mC_M rfl) rfl rfl hl.1 rfl (lv_room (Nat.le_of_ble_eq_true rfl)) dL_law_781 ⟨by show _ ≤ 601024; omega, by show _ ≤ 7293034; omega⟩) hW (fun r182 m183 H1 locs1 hz h hW1 => ?_)
        replace hW := lm_out hW hW1 hz
        clear hW1
        refine W.widen (k := n + 2) (n := 8 * (n + 2)) (by omega) (by omega) ?_
        refine lv_iload hx hb dL_law_784 (lv_at hl 1 rfl) ?_
        refine lv_icmp_eq (tgt := 791) hx hb dL_law_786 (by decide) (fun c_184 => ?_) (fun c_184 => ?_)
        · replace h := h.1 c_184
          refine lv_iload hx hb dL_law_791 (lv_at hl 1 rfl) ?_
          refine lv_if_ne (tgt := 808) hx hb dL_law_793 (by decide) (fun c_185 => ?_) (fun c_185 => ?_)
          · replace h := h.2 c_185
            refine lv_goto (tgt := 1129) hx hb dL_law_808 (by decide) ?_
            refine lv_iinc (v := (i + 3)) (lv' := [(4, .int (i + 3)), (6, .int r180), (5, .int r174), (0, .ref b), (1, .ref S0), (2, .ref (S0 + 9)), (3, .ref (S0 + 29))]) hx hb dL_law_1129 hl (k := 2) rfl rfl (by decide) rfl (fun ls hl => ?_)
            refine lv_goto (tgt := 23) hx hb dL_law_1132 (by decide) ?_
            exact ih (i + 3) (n + 2) u175.1 m183 u175.2 _ _ _ h hW (lv_sub hl [0, 3, 4, 5, 6] rfl)
          · replace h := h.1 c_185
            refine lv_aload_n hx hb dL_law_796 rfl (lv_at hl 6 rfl) ?_
            refine lv_iconst (v := 0) hx hb dL_law_797 (by decide) ?_
            refine zw_lald hx hb hE.1 hW lo_C (by unfold vp_in; decide) dL_law_798 ?_
            refine lv_iload hx hb dL_law_799 (lv_at hl 0 rfl) ?_
            refine lv_i2l hx hb dL_law_801 rfl ?_
            refine W.lcmp hx hb dL_law_802 ?_
            refine lv_if_eq (tgt := 808) hx hb dL_law_803 (by decide) (fun c_186 => ?_) (fun c_186 => ?_)
            · replace h := h.1 c_186
              refine lv_goto (tgt := 1129) hx hb dL_law_808 (by decide) ?_
              refine lv_iinc (v := (i + 3)) (lv' := [(4, .int (i + 3)), (6, .int r180), (5, .int r174), (0, .ref b), (1, .ref S0), (2, .ref (S0 + 9)), (3, .ref (S0 + 29))]) hx hb dL_law_1129 hl (k := 2) rfl rfl (by decide) rfl (fun ls hl => ?_)
              refine lv_goto (tgt := 23) hx hb dL_law_1132 (by decide) ?_
              exact ih (i + 3) (n + 2) u175.1 m183 u175.2 _ _ _ h hW (lv_sub hl [0, 3, 4, 5, 6] rfl)
            · replace h := h.2 c_186
              refine lv_iconst (v := 0) hx hb dL_law_806 (by decide) ?_
              exact h.elim
        · replace h := h.2 c_184
          refine lv_iconst (v := 0) hx hb dL_law_789 (by decide) ?_
          exact h.elim
      replace h := h.2
      refine (Classical.em (((xs i.toNatClampNeg) &&& 31) = 12)).elim (fun c_187 => ?_) (fun c_187 => ?_)
      · replace h := h.1 c_187
        unfold wL_case12 at h
        refine lv_tableIn (tgt := 811) (off := 772) hx hb dL_law_39 (by rw [c_187]; decide) (by rw [c_187]; decide) (by rw [c_187]; rfl) (by decide) ?_
        refine lv_aload_n hx hb dL_law_811 rfl (lv_at hl 2 rfl) ?_
        refine lv_aload_n hx hb dL_law_812 rfl (lv_at hl 1 rfl) ?_
        refine lv_iload hx hb dL_law_813 (lv_at hl 0 rfl) ?_
        refine lv_iconst (v := 1) hx hb dL_law_815 (by decide) ?_
        refine lv_iadd hx hb dL_law_816 ?_
        obtain ⟨hb_188, h⟩ := h
        refine zw_sld hx hb hX hbl hS0 hW hb_188 dL_law_817 ?_
        refine lv_aload_n hx hb dL_law_818 rfl (lv_at hl 4 rfl) ?_
        obtain ⟨hb_191, h⟩ := h
        refine zs_i (vx_runSW (As := [.ref S0, .int (xs (i + 1).toNatClampNeg), .ref (S0 + 29)]) (rest := []) ⟨hx, hb, hml, hown, hts⟩ (cL_recall_ok l hlt D S0 (lG D S0 mm (fun _ => 0)) k o (xs (i + 1).toNatClampNeg) _ h) (vx_cwSW 3 hts gL_law_L_recall rfl rfl rfl (by decide +kernel) ⟨Nat.le_of_ble_eq_true rfl, Nat.le_of_ble_eq_true rfl⟩) (zpreS hE hs (hW.mono lo_in)) rfl rfl hl.1 rfl (lv_room (Nat.le_of_ble_eq_true rfl)) dL_law_819 ⟨by show _ ≤ 601024; omega, by show _ ≤ 7293034; omega⟩) hW (fun r189 u190 H locs _ h hW => ?_)
        replace hW := hW.mono lo_out
        refine W.widen (k := n + 2) (n := 8 * (n + 2)) (by omega) (by omega) ?_
        refine lv_istore (lv' := [(5, .int r189), (4, .int i), (0, .ref b), (1, .ref S0), (2, .ref (S0 + 9)), (3, .ref (S0 + 29))]) hx hb dL_law_822 hl (by decide) rfl (fun ls hl => ?_)
        refine lv_aload_n hx hb dL_law_824 rfl (lv_at hl 4 rfl) ?_
        refine lv_aload_n hx hb dL_law_825 rfl (lv_at hl 2 rfl) ?_
        refine lv_iload hx hb dL_law_826 (lv_at hl 1 rfl) ?_
        refine lv_iconst (v := 1) hx hb dL_law_828 (by decide) ?_
        refine lv_iadd hx hb dL_law_829 ?_
        obtain ⟨hb_194, h⟩ := h
        refine zw_sld hx hb hX hbl hS0 hW hb_194 dL_law_830 ?_
        refine zs_i (va_runV (As := [.int (xs (i + 1).toNatClampNeg)]) (rest := []) ⟨hx, hb, hml, hown, hts⟩ (cX6_recall_ok l hlt D S0 (xF D S0 (lG D S0 mm u190.2) u190.1) mm (xs (i + 1).toNatClampNeg) _ h) (cwV 1 hts gL_law_X6_recall rfl rfl rfl (by decide +kernel) ⟨Nat.le_of_ble_eq_true rfl, Nat.le_of_ble_eq_true rfl⟩) (zpreV (q := (RX6, TX6, 24)) hE hs (hW.mono lm_in) mC_M rfl) rfl rfl hl.1 rfl (lv_room (Nat.le_of_ble_eq_true rfl)) dL_law_831 ⟨by show _ ≤ 601024; omega, by show _ ≤ 7293034; omega⟩) hW (fun r195 m196 H1 locs1 hz h hW1 => ?_)
        replace hW := lm_out hW hW1 hz
        clear hW1
        refine W.widen (k := n + 2) (n := 8 * (n + 2)) (by omega) (by omega) ?_
        refine lv_istore (lv' := [(6, .int r195), (5, .int r189), (4, .int i), (0, .ref b), (1, .ref S0), (2, .ref (S0 + 9)), (3, .ref (S0 + 29))]) hx hb dL_law_834 hl (by decide) rfl (fun ls hl => ?_)
        refine lv_aload_n hx hb dL_law_836 rfl (lv_at hl 5 rfl) ?_
        refine zs_i (va_runV (As := []) (rest := []) ⟨hx, hb, hml, hown, hts⟩ (cX6_thrown_ok l hlt D S0 (xF D S0 (lG D S0 m196 u190.2) u190.1) m196 _ h) (cwV 0 hts gL_law_X6_thrown rfl rfl rfl (by decide +kernel) ⟨Nat.le_of_ble_eq_true rfl, Nat.le_of_ble_eq_true rfl⟩) (zpreV (q := (RX6, TX6, 24)) hE hs (hW.mono lm_in) mC_M rfl) rfl rfl hl.1 rfl (lv_room (Nat.le_of_ble_eq_true rfl)) dL_law_837 ⟨by show _ ≤ 601024; omega, by show _ ≤ 7293034; omega⟩) hW (fun r197 m198 H1 locs1 hz h hW1 => ?_)
        replace hW := lm_out hW hW1 hz
        clear hW1
        refine W.widen (k := n + 2) (n := 8 * (n + 2)) (by omega) (by omega) ?_
        refine lv_iload hx hb dL_law_840 (lv_at hl 1 rfl) ?_
        refine lv_icmp_eq (tgt := 847) hx hb dL_law_842 (by decide) (fun c_199 => ?_) (fun c_199 => ?_)
        · replace h := h.1 c_199
          refine lv_iload hx hb dL_law_847 (lv_at hl 1 rfl) ?_
          refine lv_if_ne (tgt := 864) hx hb dL_law_849 (by decide) (fun c_200 => ?_) (fun c_200 => ?_)
          · replace h := h.2 c_200
            refine lv_goto (tgt := 1129) hx hb dL_law_864 (by decide) ?_
            refine lv_iinc (v := (i + 3)) (lv' := [(4, .int (i + 3)), (6, .int r195), (5, .int r189), (0, .ref b), (1, .ref S0), (2, .ref (S0 + 9)), (3, .ref (S0 + 29))]) hx hb dL_law_1129 hl (k := 2) rfl rfl (by decide) rfl (fun ls hl => ?_)
            refine lv_goto (tgt := 23) hx hb dL_law_1132 (by decide) ?_
            exact ih (i + 3) (n + 2) u190.1 m198 u190.2 _ _ _ h hW (lv_sub hl [0, 3, 4, 5, 6] rfl)
          · replace h := h.1 c_200
            refine lv_aload_n hx hb dL_law_852 rfl (lv_at hl 6 rfl) ?_
            refine lv_iconst (v := 0) hx hb dL_law_853 (by decide) ?_
            refine zw_lald hx hb hE.1 hW lo_C (by unfold vp_in; decide) dL_law_854 ?_
            refine lv_iload hx hb dL_law_855 (lv_at hl 0 rfl) ?_
            refine lv_i2l hx hb dL_law_857 rfl ?_
            refine W.lcmp hx hb dL_law_858 ?_
            refine lv_if_eq (tgt := 864) hx hb dL_law_859 (by decide) (fun c_201 => ?_) (fun c_201 => ?_)
            · replace h := h.1 c_201
              refine lv_goto (tgt := 1129) hx hb dL_law_864 (by decide) ?_
              refine lv_iinc (v := (i + 3)) (lv' := [(4, .int (i + 3)), (6, .int r195), (5, .int r189), (0, .ref b), (1, .ref S0), (2, .ref (S0 + 9)), (3, .ref (S0 + 29))]) hx hb dL_law_1129 hl (k := 2) rfl rfl (by decide) rfl (fun ls hl => ?_)
              refine lv_goto (tgt := 23) hx hb dL_law_1132 (by decide) ?_
              exact ih (i + 3) (n + 2) u190.1 m198 u190.2 _ _ _ h hW (lv_sub hl [0, 3, 4, 5, 6] rfl)
            · replace h := h.2 c_201
              refine lv_iconst (v := 0) hx hb dL_law_862 (by decide) ?_
              exact h.elim
        · replace h := h.2 c_199
          refine lv_iconst (v := 0) hx hb dL_law_845 (by decide) ?_
          exact h.elim
      replace h := h.2
      refine (Classical.em (((xs i.toNatClampNeg) &&& 31) = 13)).elim (fun c_202 => ?_) (fun c_202 => ?_)
      · replace h := h.1 c_202
        unfold wL_case13 at h
        refine lv_tableIn (tgt := 867) (off := 828) hx hb dL_law_39 (by rw [c_202]; decide) (by rw [c_202]; decide) (by rw [c_202]; rfl) (by decide) ?_
        refine lv_aload_n hx hb dL_law_867 rfl (lv_at hl 2 rfl) ?_
        refine lv_aload_n hx hb dL_law_868 rfl (lv_at hl 1 rfl) ?_
        refine lv_iload hx hb dL_law_869 (lv_at hl 0 rfl) ?_
        refine lv_iconst (v := 1) hx hb dL_law_871 (by decide) ?_
        refine lv_iadd hx hb dL_law_872 ?_
        obtain ⟨hb_203, h⟩ := h
        refine zw_sld hx hb hX hbl hS0 hW hb_203 dL_law_873 ?_
        refine lv_aload_n hx hb dL_law_874 rfl (lv_at hl 4 rfl) ?_
        obtain ⟨hb_206, h⟩ := h
        refine zs_i (vx_runSW (As := [.ref S0, .int (xs (i + 1).toNatClampNeg), .ref (S0 + 29)]) (rest := []) ⟨hx, hb, hml, hown, hts⟩ (cL_sendBack_ok l hlt D S0 (lG D S0 mm (fun _ => 0)) k o (xs (i + 1).toNatClampNeg) _ h) (vx_cwSW 3 hts gL_law_L_sendBack rfl rfl rfl (by decide +kernel) ⟨Nat.le_of_ble_eq_true rfl, Nat.le_of_ble_eq_true rfl⟩) (zpreS hE hs (hW.mono lo_in)) rfl rfl hl.1 rfl (lv_room (Nat.le_of_ble_eq_true rfl)) dL_law_875 ⟨by show _ ≤ 601024; omega, by show _ ≤ 7293034; omega⟩) hW (fun r204 u205 H locs _ h hW => ?_)
        replace hW := hW.mono lo_out
        refine W.widen (k := n + 2) (n := 8 * (n + 2)) (by omega) (by omega) ?_
        refine lv_istore (lv' := [(5, .int r204), (4, .int i), (0, .ref b), (1, .ref S0), (2, .ref (S0 + 9)), (3, .ref (S0 + 29))]) hx hb dL_law_878 hl (by decide) rfl (fun ls hl => ?_)
        refine lv_aload_n hx hb dL_law_880 rfl (lv_at hl 4 rfl) ?_
        refine lv_aload_n hx hb dL_law_881 rfl (lv_at hl 2 rfl) ?_
        refine lv_iload hx hb dL_law_882 (lv_at hl 1 rfl) ?_
        refine lv_iconst (v := 1) hx hb dL_law_884 (by decide) ?_
        refine lv_iadd hx hb dL_law_885 ?_
        obtain ⟨hb_209, h⟩ := h
        refine zw_sld hx hb hX hbl hS0 hW hb_209 dL_law_886 ?_
        refine zs_i (va_runV (As := [.int (xs (i + 1).toNatClampNeg)]) (rest := []) ⟨hx, hb, hml, hown, hts⟩ (cX6_sendBack_ok l hlt D S0 (xF D S0 (lG D S0 mm u205.2) u205.1) mm (xs (i + 1).toNatClampNeg) _ h) (cwV 1 hts gL_law_X6_sendBack rfl rfl rfl (by decide +kernel) ⟨Nat.le_of_ble_eq_true rfl, Nat.le_of_ble_eq_true rfl⟩) (zpreV (q := (RX6, TX6, 24)) hE hs (hW.mono lm_in) mC_M rfl) rfl rfl hl.1 rfl (lv_room (Nat.le_of_ble_eq_true rfl)) dL_law_887 ⟨by show _ ≤ 601024; omega, by show _ ≤ 7293034; omega⟩) hW (fun r210 m211 H1 locs1 hz h hW1 => ?_)
        replace hW := lm_out hW hW1 hz
        clear hW1
        refine W.widen (k := n + 2) (n := 8 * (n + 2)) (by omega) (by omega) ?_
        refine lv_istore (lv' := [(6, .int r210), (5, .int r204), (4, .int i), (0, .ref b), (1, .ref S0), (2, .ref (S0 + 9)), (3, .ref (S0 + 29))]) hx hb dL_law_890 hl (by decide) rfl (fun ls hl => ?_)
        refine lv_aload_n hx hb dL_law_892 rfl (lv_at hl 5 rfl) ?_
        refine zs_i (va_runV (As := []) (rest := []) ⟨hx, hb, hml, hown, hts⟩ (cX6_thrown_ok l hlt D S0 (xF D S0 (lG D S0 m211 u205.2) u205.1) m211 _ h) (cwV 0 hts gL_law_X6_thrown rfl rfl rfl (by decide +kernel) ⟨Nat.le_of_ble_eq_true rfl, Nat.le_of_ble_eq_true rfl⟩) (zpreV (q := (RX6, TX6, 24)) hE hs (hW.mono lm_in) mC_M rfl) rfl rfl hl.1 rfl (lv_room (Nat.le_of_ble_eq_true rfl)) dL_law_893 ⟨by show _ ≤ 601024; omega, by show _ ≤ 7293034; omega⟩) hW (fun r212 m213 H1 locs1 hz h hW1 => ?_)
        replace hW := lm_out hW hW1 hz
        clear hW1
        refine W.widen (k := n + 2) (n := 8 * (n + 2)) (by omega) (by omega) ?_
        refine lv_iload hx hb dL_law_896 (lv_at hl 1 rfl) ?_
        refine lv_icmp_eq (tgt := 903) hx hb dL_law_898 (by decide) (fun c_214 => ?_) (fun c_214 => ?_)
        · replace h := h.1 c_214
          refine lv_iload hx hb dL_law_903 (lv_at hl 1 rfl) ?_
          refine lv_if_ne (tgt := 920) hx hb dL_law_905 (by decide) (fun c_215 => ?_) (fun c_215 => ?_)
          · replace h := h.2 c_215
            refine lv_goto (tgt := 1129) hx hb dL_law_920 (by decide) ?_
            refine lv_iinc (v := (i + 3)) (lv' := [(4, .int (i + 3)), (6, .int r210), (5, .int r204), (0, .ref b), (1, .ref S0), (2, .ref (S0 + 9)), (3, .ref (S0 + 29))]) hx hb dL_law_1129 hl (k := 2) rfl rfl (by decide) rfl (fun ls hl => ?_)
            refine lv_goto (tgt := 23) hx hb dL_law_1132 (by decide) ?_
            exact ih (i + 3) (n + 2) u205.1 m213 u205.2 _ _ _ h hW (lv_sub hl [0, 3, 4, 5, 6] rfl)
          · replace h := h.1 c_215
            refine lv_aload_n hx hb dL_law_908 rfl (lv_at hl 6 rfl) ?_
            refine lv_iconst (v := 0) hx hb dL_law_909 (by decide) ?_
            refine zw_lald hx hb hE.1 hW lo_C (by unfold vp_in; decide) dL_law_910 ?_
            refine lv_iload hx hb dL_law_911 (lv_at hl 0 rfl) ?_
            refine lv_i2l hx hb dL_law_913 rfl ?_
            refine W.lcmp hx hb dL_law_914 ?_
            refine lv_if_eq (tgt := 920) hx hb dL_law_915 (by decide) (fun c_216 => ?_) (fun c_216 => ?_)
            · replace h := h.1 c_216
              refine lv_goto (tgt := 1129) hx hb dL_law_920 (by decide) ?_
              refine lv_iinc (v := (i + 3)) (lv' := [(4, .int (i + 3)), (6, .int r210), (5, .int r204), (0, .ref b), (1, .ref S0), (2, .ref (S0 + 9)), (3, .ref (S0 + 29))]) hx hb dL_law_1129 hl (k := 2) rfl rfl (by decide) rfl (fun ls hl => ?_)
              refine lv_goto (tgt := 23) hx hb dL_law_1132 (by decide) ?_
              exact ih (i + 3) (n + 2) u205.1 m213 u205.2 _ _ _ h hW (lv_sub hl [0, 3, 4, 5, 6] rfl)
            · replace h := h.2 c_216
              refine lv_iconst (v := 0) hx hb dL_law_918 (by decide) ?_
              exact h.elim
        · replace h := h.2 c_214
          refine lv_iconst (v := 0) hx hb dL_law_901 (by decide) ?_
          exact h.elim
      replace h := h.2
      refine (Classical.em (((xs i.toNatClampNeg) &&& 31) = 14)).elim (fun c_217 => ?_) (fun c_217 => ?_)
      · replace h := h.1 c_217
        unfold wL_case14 at h
        refine lv_tableIn (tgt := 923) (off := 884) hx hb dL_law_39 (by rw [c_217]; decide) (by rw [c_217]; decide) (by rw [c_217]; rfl) (by decide) ?_
        refine lv_aload_n hx hb dL_law_923 rfl (lv_at hl 2 rfl) ?_
        refine lv_aload_n hx hb dL_law_924 rfl (lv_at hl 1 rfl) ?_
        refine lv_iload hx hb dL_law_925 (lv_at hl 0 rfl) ?_
        refine lv_iconst (v := 1) hx hb dL_law_927 (by decide) ?_
        refine lv_iadd hx hb dL_law_928 ?_
        obtain ⟨hb_218, h⟩ := h
        refine zw_sld hx hb hX hbl hS0 hW hb_218 dL_law_929 ?_
        refine lv_aload_n hx hb dL_law_930 rfl (lv_at hl 4 rfl) ?_
        obtain ⟨hb_221, h⟩ := h
        refine zs_i (vx_runSW (As := [.ref S0, .int (xs (i + 1).toNatClampNeg), .ref (S0 + 29)]) (rest := []) ⟨hx, hb, hml, hown, hts⟩ (cL_pass_ok l hlt D S0 (lG D S0 mm (fun _ => 0)) k o (xs (i + 1).toNatClampNeg) _ h) (vx_cwSW 3 hts gL_law_L_pass rfl rfl rfl (by decide +kernel) ⟨Nat.le_of_ble_eq_true rfl, Nat.le_of_ble_eq_true rfl⟩) (zpreS hE hs (hW.mono lo_in)) rfl rfl hl.1 rfl (lv_room (Nat.le_of_ble_eq_true rfl)) dL_law_931 ⟨by show _ ≤ 601024; omega, by show _ ≤ 7293034; omega⟩) hW (fun r219 u220 H locs _ h hW => ?_)
        replace hW := hW.mono lo_out
        refine W.widen (k := n + 601) (n := 8 * (n + 601)) (by omega) (by omega) ?_
        refine lv_istore (lv' := [(5, .int r219), (4, .int i), (0, .ref b), (1, .ref S0), (2, .ref (S0 + 9)), (3, .ref (S0 + 29))]) hx hb dL_law_934 hl (by decide) rfl (fun ls hl => ?_)
        refine lv_aload_n hx hb dL_law_936 rfl (lv_at hl 4 rfl) ?_
        refine lv_aload_n hx hb dL_law_937 rfl (lv_at hl 2 rfl) ?_
        refine lv_iload hx hb dL_law_938 (lv_at hl 1 rfl) ?_
        refine lv_iconst (v := 1) hx hb dL_law_940 (by decide) ?_
        refine lv_iadd hx hb dL_law_941 ?_
        obtain ⟨hb_224, h⟩ := h
        refine zw_sld hx hb hX hbl hS0 hW hb_224 dL_law_942 ?_
        refine zs_i (va_runV (As := [.int (xs (i + 1).toNatClampNeg)]) (rest := []) ⟨hx, hb, hml, hown, hts⟩ (cX6_pass_ok l hlt D S0 (xF D S0 (lG D S0 mm u220.2) u220.1) mm (xs (i + 1).toNatClampNeg) _ h) (cwV 1 hts gL_law_X6_pass rfl rfl rfl (by decide +kernel) ⟨Nat.le_of_ble_eq_true rfl, Nat.le_of_ble_eq_true rfl⟩) (zpreV (q := (RX6, TX6, 24)) hE hs (hW.mono lm_in) mC_M rfl) rfl rfl hl.1 rfl (lv_room (Nat.le_of_ble_eq_true rfl)) dL_law_943 ⟨by show _ ≤ 601024; omega, by show _ ≤ 7293034; omega⟩) hW (fun r225 m226 H1 locs1 hz h hW1 => ?_)
        replace hW := lm_out hW hW1 hz
        clear hW1
        refine W.widen (k := n + 601) (n := 8 * (n + 601)) (by omega) (by omega) ?_
        refine lv_istore (lv' := [(6, .int r225), (5, .int r219), (4, .int i), (0, .ref b), (1, .ref S0), (2, .ref (S0 + 9)), (3, .ref (S0 + 29))]) hx hb dL_law_946 hl (by decide) rfl (fun ls hl => ?_)
        refine lv_aload_n hx hb dL_law_948 rfl (lv_at hl 5 rfl) ?_
        refine zs_i (va_runV (As := []) (rest := []) ⟨hx, hb, hml, hown, hts⟩ (cX6_thrown_ok l hlt D S0 (xF D S0 (lG D S0 m226 u220.2) u220.1) m226 _ h) (cwV 0 hts gL_law_X6_thrown rfl rfl rfl (by decide +kernel) ⟨Nat.le_of_ble_eq_true rfl, Nat.le_of_ble_eq_true rfl⟩) (zpreV (q := (RX6, TX6, 24)) hE hs (hW.mono lm_in) mC_M rfl) rfl rfl hl.1 rfl (lv_room (Nat.le_of_ble_eq_true rfl)) dL_law_949 ⟨by show _ ≤ 601024; omega, by show _ ≤ 7293034; omega⟩) hW (fun r227 m228 H1 locs1 hz h hW1 => ?_)
        replace hW := lm_out hW hW1 hz
        clear hW1
        refine W.widen (k := n + 601) (n := 8 * (n + 601)) (by omega) (by omega) ?_
        refine lv_iload hx hb dL_law_952 (lv_at hl 1 rfl) ?_
        refine lv_icmp_eq (tgt := 959) hx hb dL_law_954 (by decide) (fun c_229 => ?_) (fun c_229 => ?_)
        · replace h := h.1 c_229
          refine lv_iload hx hb dL_law_959 (lv_at hl 1 rfl) ?_
          refine lv_if_ne (tgt := 976) hx hb dL_law_961 (by decide) (fun c_230 => ?_) (fun c_230 => ?_)
          · replace h := h.2 c_230
            refine lv_goto (tgt := 1129) hx hb dL_law_976 (by decide) ?_
            refine lv_iinc (v := (i + 3)) (lv' := [(4, .int (i + 3)), (6, .int r225), (5, .int r219), (0, .ref b), (1, .ref S0), (2, .ref (S0 + 9)), (3, .ref (S0 + 29))]) hx hb dL_law_1129 hl (k := 2) rfl rfl (by decide) rfl (fun ls hl => ?_)
            refine lv_goto (tgt := 23) hx hb dL_law_1132 (by decide) ?_
            exact ih (i + 3) (n + 601) u220.1 m228 u220.2 _ _ _ h hW (lv_sub hl [0, 3, 4, 5, 6] rfl)
          · replace h := h.1 c_230
            refine lv_aload_n hx hb dL_law_964 rfl (lv_at hl 6 rfl) ?_
            refine lv_iconst (v := 0) hx hb dL_law_965 (by decide) ?_
            refine zw_lald hx hb hE.1 hW lo_C (by unfold vp_in; decide) dL_law_966 ?_
            refine lv_iload hx hb dL_law_967 (lv_at hl 0 rfl) ?_
            refine lv_i2l hx hb dL_law_969 rfl ?_
            refine W.lcmp hx hb dL_law_970 ?_
            refine lv_if_eq (tgt := 976) hx hb dL_law_971 (by decide) (fun c_231 => ?_) (fun c_231 => ?_)
            · replace h := h.1 c_231
              refine lv_goto (tgt := 1129) hx hb dL_law_976 (by decide) ?_
              refine lv_iinc (v := (i + 3)) (lv' := [(4, .int (i + 3)), (6, .int r225), (5, .int r219), (0, .ref b), (1, .ref S0), (2, .ref (S0 + 9)), (3, .ref (S0 + 29))]) hx hb dL_law_1129 hl (k := 2) rfl rfl (by decide) rfl (fun ls hl => ?_)
              refine lv_goto (tgt := 23) hx hb dL_law_1132 (by decide) ?_
              exact ih (i + 3) (n + 601) u220.1 m228 u220.2 _ _ _ h hW (lv_sub hl [0, 3, 4, 5, 6] rfl)
            · replace h := h.2 c_231
              refine lv_iconst (v := 0) hx hb dL_law_974 (by decide) ?_
              exact h.elim
        · replace h := h.2 c_229
          refine lv_iconst (v := 0) hx hb dL_law_957 (by decide) ?_
          exact h.elim
      replace h := h.2
      refine (Classical.em (((xs i.toNatClampNeg) &&& 31) = 15)).elim (fun c_232 => ?_) (fun c_232 => ?_)
      · replace h := h.1 c_232
        unfold wL_case15 at h
        refine lv_tableIn (tgt := 979) (off := 940) hx hb dL_law_39 (by rw [c_232]; decide) (by rw [c_232]; decide) (by rw [c_232]; rfl) (by decide) ?_
        refine lv_aload_n hx hb dL_law_979 rfl (lv_at hl 2 rfl) ?_
        refine zs_i (va_runV (As := []) (rest := []) ⟨hx, hb, hml, hown, hts⟩ (cX5_today_ok l hlt D S0 (lG D S0 mm o) k  _ h) (cwV 0 hts gL_law_X5_today rfl rfl rfl (by decide +kernel) ⟨Nat.le_of_ble_eq_true rfl, Nat.le_of_ble_eq_true rfl⟩) (zpreV (q := (RX5, TX5, 7)) hE hs hW xC_U rfl) rfl rfl hl.1 rfl (lv_room (Nat.le_of_ble_eq_true rfl)) dL_law_980 ⟨by show _ ≤ 601024; omega, by show _ ≤ 7293034; omega⟩) hW (fun r233 k234 H locs _ h hW => ?_)
        replace hW := xW_start hW
        refine W.widen (k := n) (n := 8 * (n)) (by omega) (by omega) ?_
        refine lv_aload_n hx hb dL_law_983 rfl (lv_at hl 3 rfl) ?_
        refine zs_i (va_runV (As := []) (rest := [.int r233]) ⟨hx, hb, hml, hown, hts⟩ (cX6_today_ok l hlt D S0 (xF D S0 (lG D S0 mm o) k234) mm _ h) (cwV 0 hts gL_law_X6_today rfl rfl rfl (by decide +kernel) ⟨Nat.le_of_ble_eq_true rfl, Nat.le_of_ble_eq_true rfl⟩) (zpreV (q := (RX6, TX6, 24)) hE hs (hW.mono lm_in) mC_M rfl) rfl rfl hl.1 rfl (lv_room (Nat.le_of_ble_eq_true rfl)) dL_law_984 ⟨by show _ ≤ 601024; omega, by show _ ≤ 7293034; omega⟩) hW (fun r235 m236 H1 locs1 hz h hW1 => ?_)
        replace hW := lm_out hW hW1 hz
        clear hW1
        refine W.widen (k := n) (n := 8 * (n)) (by omega) (by omega) ?_
        refine lv_icmp_eq (tgt := 1129) hx hb dL_law_987 (by decide) (fun c_237 => ?_) (fun c_237 => ?_)
        · replace h := h.1 c_237
          refine lv_iinc (v := (i + 3)) (lv' := [(4, .int (i + 3)), (0, .ref b), (1, .ref S0), (2, .ref (S0 + 9)), (3, .ref (S0 + 29))]) hx hb dL_law_1129 hl (k := 0) rfl rfl (by decide) rfl (fun ls hl => ?_)
          refine lv_goto (tgt := 23) hx hb dL_law_1132 (by decide) ?_
          exact ih (i + 3) n k234 m236 o _ _ _ h hW (lv_sub hl [0, 1, 2, 3, 4] rfl)
        · replace h := h.2 c_237
          refine lv_iconst (v := 0) hx hb dL_law_990 (by decide) ?_
          exact h.elim
      replace h := h.2
      refine (Classical.em (((xs i.toNatClampNeg) &&& 31) = 16)).elim (fun c_238 => ?_) (fun c_238 => ?_)
      · replace h := h.1 c_238
        unfold wL_case16 at h
        refine lv_tableIn (tgt := 992) (off := 953) hx hb dL_law_39 (by rw [c_238]; decide) (by rw [c_238]; decide) (by rw [c_238]; rfl) (by decide) ?_
        refine lv_aload_n hx hb dL_law_992 rfl (lv_at hl 2 rfl) ?_
        refine lv_aload_n hx hb dL_law_993 rfl (lv_at hl 1 rfl) ?_
        refine lv_iload hx hb dL_law_994 (lv_at hl 0 rfl) ?_
        refine lv_iconst (v := 1) hx hb dL_law_996 (by decide) ?_
        refine lv_iadd hx hb dL_law_997 ?_
        obtain ⟨hb_239, h⟩ := h
        refine zw_sld hx hb hX hbl hS0 hW hb_239 dL_law_998 ?_
        refine lv_aload_n hx hb dL_law_999 rfl (lv_at hl 1 rfl) ?_
        refine lv_iload hx hb dL_law_1000 (lv_at hl 0 rfl) ?_
        refine lv_iconst (v := 2) hx hb dL_law_1002 (by decide) ?_
        refine lv_iadd hx hb dL_law_1003 ?_
        obtain ⟨hb_240, h⟩ := h
        refine zw_sld hx hb hX hbl hS0 hW hb_240 dL_law_1004 ?_
        refine lv_aload_n hx hb dL_law_1005 rfl (lv_at hl 4 rfl) ?_
        obtain ⟨hb_243, h⟩ := h
        refine zs_i (vx_runSW (As := [.ref S0, .int (xs (i + 1).toNatClampNeg), .int (xs (i + 2).toNatClampNeg), .ref (S0 + 29)]) (rest := []) ⟨hx, hb, hml, hown, hts⟩ (cL_owes_ok l hlt D S0 (lG D S0 mm (fun _ => 0)) k o (xs (i + 1).toNatClampNeg) (xs (i + 2).toNatClampNeg) _ h) (vx_cwSW 4 hts gL_law_L_owes rfl rfl rfl (by decide +kernel) ⟨Nat.le_of_ble_eq_true rfl, Nat.le_of_ble_eq_true rfl⟩) (zpreS hE hs (hW.mono lo_in)) rfl rfl hl.1 rfl (lv_room (Nat.le_of_ble_eq_true rfl)) dL_law_1006 ⟨by show _ ≤ 601024; omega, by show _ ≤ 7293034; omega⟩) hW (fun r241 u242 H locs _ h hW => ?_)
        replace hW := hW.mono lo_out
        refine W.widen (k := n + 1) (n := 8 * (n + 1)) (by omega) (by omega) ?_
        refine lv_istore (lv' := [(5, .int r241), (4, .int i), (0, .ref b), (1, .ref S0), (2, .ref (S0 + 9)), (3, .ref (S0 + 29))]) hx hb dL_law_1009 hl (by decide) rfl (fun ls hl => ?_)
        refine lv_aload_n hx hb dL_law_1011 rfl (lv_at hl 4 rfl) ?_
        refine lv_aload_n hx hb dL_law_1012 rfl (lv_at hl 2 rfl) ?_
        refine lv_iload hx hb dL_law_1013 (lv_at hl 1 rfl) ?_
        refine lv_iconst (v := 1) hx hb dL_law_1015 (by decide) ?_
        refine lv_iadd hx hb dL_law_1016 ?_
        obtain ⟨hb_246, h⟩ := h
        refine zw_sld hx hb hX hbl hS0 hW hb_246 dL_law_1017 ?_
        refine lv_aload_n hx hb dL_law_1018 rfl (lv_at hl 2 rfl) ?_
        refine lv_iload hx hb dL_law_1019 (lv_at hl 1 rfl) ?_
        refine lv_iconst (v := 2) hx hb dL_law_1021 (by decide) ?_
        refine lv_iadd hx hb dL_law_1022 ?_
        obtain ⟨hb_247, h⟩ := h
        refine zw_sld hx hb hX hbl hS0 hW hb_247 dL_law_1023 ?_
        refine zs_i (va_runV (As := [.int (xs (i + 1).toNatClampNeg), .int (xs (i + 2).toNatClampNeg)]) (rest := []) ⟨hx, hb, hml, hown, hts⟩ (cX6_owes_ok l hlt D S0 (xF D S0 (lG D S0 mm u242.2) u242.1) mm (xs (i + 1).toNatClampNeg) (xs (i + 2).toNatClampNeg) _ h) (cwV 2 hts gL_law_X6_owes rfl rfl rfl (by decide +kernel) ⟨Nat.le_of_ble_eq_true rfl, Nat.le_of_ble_eq_true rfl⟩) (zpreV (q := (RX6, TX6, 24)) hE hs (hW.mono lm_in) mC_M rfl) rfl rfl hl.1 rfl (lv_room (Nat.le_of_ble_eq_true rfl)) dL_law_1024 ⟨by show _ ≤ 601024; omega, by show _ ≤ 7293034; omega⟩) hW (fun r248 m249 H1 locs1 hz h hW1 => ?_)
        replace hW := lm_out hW hW1 hz
        clear hW1
        refine W.widen (k := n + 1) (n := 8 * (n + 1)) (by omega) (by omega) ?_
        refine lv_istore (lv' := [(6, .int r248), (5, .int r241), (4, .int i), (0, .ref b), (1, .ref S0), (2, .ref (S0 + 9)), (3, .ref (S0 + 29))]) hx hb dL_law_1027 hl (by decide) rfl (fun ls hl => ?_)
        refine lv_aload_n hx hb dL_law_1029 rfl (lv_at hl 5 rfl) ?_
        refine zs_i (va_runV (As := []) (rest := []) ⟨hx, hb, hml, hown, hts⟩ (cX6_thrown_ok l hlt D S0 (xF D S0 (lG D S0 m249 u242.2) u242.1) m249 _ h) (cwV 0 hts gL_law_X6_thrown rfl rfl rfl (by decide +kernel) ⟨Nat.le_of_ble_eq_true rfl, Nat.le_of_ble_eq_true rfl⟩) (zpreV (q := (RX6, TX6, 24)) hE hs (hW.mono lm_in) mC_M rfl) rfl rfl hl.1 rfl (lv_room (Nat.le_of_ble_eq_true rfl)) dL_law_1030 ⟨by show _ ≤ 601024; omega, by show _ ≤ 7293034; omega⟩) hW (fun r250 m251 H1 locs1 hz h hW1 => ?_)
        replace hW := lm_out hW hW1 hz
        clear hW1
        refine W.widen (k := n + 1) (n := 8 * (n + 1)) (by omega) (by omega) ?_
        refine lv_iload hx hb dL_law_1033 (lv_at hl 1 rfl) ?_
        refine lv_icmp_eq (tgt := 1040) hx hb dL_law_1035 (by decide) (fun c_252 => ?_) (fun c_252 => ?_)
        · replace h := h.1 c_252
          refine lv_iload hx hb dL_law_1040 (lv_at hl 1 rfl) ?_
          refine lv_if_ne (tgt := 1057) hx hb dL_law_1042 (by decide) (fun c_253 => ?_) (fun c_253 => ?_)
          · replace h := h.2 c_253
            refine lv_goto (tgt := 1129) hx hb dL_law_1057 (by decide) ?_
            refine lv_iinc (v := (i + 3)) (lv' := [(4, .int (i + 3)), (6, .int r248), (5, .int r241), (0, .ref b), (1, .ref S0), (2, .ref (S0 + 9)), (3, .ref (S0 + 29))]) hx hb dL_law_1129 hl (k := 2) rfl rfl (by decide) rfl (fun ls hl => ?_)
            refine lv_goto (tgt := 23) hx hb dL_law_1132 (by decide) ?_
            exact ih (i + 3) (n + 1) u242.1 m251 u242.2 _ _ _ h hW (lv_sub hl [0, 3, 4, 5, 6] rfl)
          · replace h := h.1 c_253
            refine lv_aload_n hx hb dL_law_1045 rfl (lv_at hl 6 rfl) ?_
            refine lv_iconst (v := 0) hx hb dL_law_1046 (by decide) ?_
            refine zw_lald hx hb hE.1 hW lo_C (by unfold vp_in; decide) dL_law_1047 ?_
            refine lv_iload hx hb dL_law_1048 (lv_at hl 0 rfl) ?_
            refine lv_i2l hx hb dL_law_1050 rfl ?_
            refine W.lcmp hx hb dL_law_1051 ?_
            refine lv_if_eq (tgt := 1057) hx hb dL_law_1052 (by decide) (fun c_254 => ?_) (fun c_254 => ?_)
            · replace h := h.1 c_254
              refine lv_goto (tgt := 1129) hx hb dL_law_1057 (by decide) ?_
              refine lv_iinc (v := (i + 3)) (lv' := [(4, .int (i + 3)), (6, .int r248), (5, .int r241), (0, .ref b), (1, .ref S0), (2, .ref (S0 + 9)), (3, .ref (S0 + 29))]) hx hb dL_law_1129 hl (k := 2) rfl rfl (by decide) rfl (fun ls hl => ?_)
              refine lv_goto (tgt := 23) hx hb dL_law_1132 (by decide) ?_
              exact ih (i + 3) (n + 1) u242.1 m251 u242.2 _ _ _ h hW (lv_sub hl [0, 3, 4, 5, 6] rfl)
            · replace h := h.2 c_254
              refine lv_iconst (v := 0) hx hb dL_law_1055 (by decide) ?_
              exact h.elim
        · replace h := h.2 c_252
          refine lv_iconst (v := 0) hx hb dL_law_1038 (by decide) ?_
          exact h.elim
      replace h := h.2
      refine (Classical.em (((xs i.toNatClampNeg) &&& 31) = 17)).elim (fun c_255 => ?_) (fun c_255 => ?_)
      · replace h := h.1 c_255
        unfold wL_case17 at h
        refine lv_tableIn (tgt := 1060) (off := 1021) hx hb dL_law_39 (by rw [c_255]; decide) (by rw [c_255]; decide) (by rw [c_255]; rfl) (by decide) ?_
        refine lv_aload_n hx hb dL_law_1060 rfl (lv_at hl 2 rfl) ?_
        refine zs_i (va_runV (As := []) (rest := []) ⟨hx, hb, hml, hown, hts⟩ (cX5_settle_ok l hlt D S0 (lG D S0 mm o) k  _ h) (cwV 0 hts gL_law_X5_settle rfl rfl rfl (by decide +kernel) ⟨Nat.le_of_ble_eq_true rfl, Nat.le_of_ble_eq_true rfl⟩) (zpreV (q := (RX5, TX5, 7)) hE hs hW xC_U rfl) rfl rfl hl.1 rfl (lv_room (Nat.le_of_ble_eq_true rfl)) dL_law_1061 ⟨by show _ ≤ 601024; omega, by show _ ≤ 7293034; omega⟩) hW (fun r256 k257 H locs _ h hW => ?_)
        replace hW := xW_start hW
        refine W.widen (k := n) (n := 8 * (n)) (by omega) (by omega) ?_
        refine lv_aload_n hx hb dL_law_1064 rfl (lv_at hl 3 rfl) ?_
        refine zs_i (va_runV (As := []) (rest := [.int r256]) ⟨hx, hb, hml, hown, hts⟩ (cX6_settle_ok l hlt D S0 (xF D S0 (lG D S0 mm o) k257) mm _ h) (cwV 0 hts gL_law_X6_settle rfl rfl rfl (by decide +kernel) ⟨Nat.le_of_ble_eq_true rfl, Nat.le_of_ble_eq_true rfl⟩) (zpreV (q := (RX6, TX6, 24)) hE hs (hW.mono lm_in) mC_M rfl) rfl rfl hl.1 rfl (lv_room (Nat.le_of_ble_eq_true rfl)) dL_law_1065 ⟨by show _ ≤ 601024; omega, by show _ ≤ 7293034; omega⟩) hW (fun r258 m259 H1 locs1 hz h hW1 => ?_)
        replace hW := lm_out hW hW1 hz
        clear hW1
        refine W.widen (k := n) (n := 8 * (n)) (by omega) (by omega) ?_
        refine lv_icmp_eq (tgt := 1129) hx hb dL_law_1068 (by decide) (fun c_260 => ?_) (fun c_260 => ?_)
        · replace h := h.1 c_260
          refine lv_iinc (v := (i + 3)) (lv' := [(4, .int (i + 3)), (0, .ref b), (1, .ref S0), (2, .ref (S0 + 9)), (3, .ref (S0 + 29))]) hx hb dL_law_1129 hl (k := 0) rfl rfl (by decide) rfl (fun ls hl => ?_)
          refine lv_goto (tgt := 23) hx hb dL_law_1132 (by decide) ?_
          exact ih (i + 3) n k257 m259 o _ _ _ h hW (lv_sub hl [0, 1, 2, 3, 4] rfl)
        · replace h := h.2 c_260
          refine lv_iconst (v := 0) hx hb dL_law_1071 (by decide) ?_
          exact h.elim
      replace h := h.2
      refine (Classical.em (((xs i.toNatClampNeg) &&& 31) = 18)).elim (fun c_261 => ?_) (fun c_261 => ?_)
      · replace h := h.1 c_261
        unfold wL_case18 at h
        refine lv_tableIn (tgt := 1073) (off := 1034) hx hb dL_law_39 (by rw [c_261]; decide) (by rw [c_261]; decide) (by rw [c_261]; rfl) (by decide) ?_
        refine lv_aload_n hx hb dL_law_1073 rfl (lv_at hl 2 rfl) ?_
        refine lv_aload_n hx hb dL_law_1074 rfl (lv_at hl 1 rfl) ?_
        refine lv_iload hx hb dL_law_1075 (lv_at hl 0 rfl) ?_
        refine lv_iconst (v := 1) hx hb dL_law_1077 (by decide) ?_
        refine lv_iadd hx hb dL_law_1078 ?_
        obtain ⟨hb_262, h⟩ := h
        refine zw_sld hx hb hX hbl hS0 hW hb_262 dL_law_1079 ?_
        refine lv_aload_n hx hb dL_law_1080 rfl (lv_at hl 4 rfl) ?_
        obtain ⟨hb_265, h⟩ := h
        refine zs_i (vx_runSW (As := [.ref S0, .int (xs (i + 1).toNatClampNeg), .ref (S0 + 29)]) (rest := []) ⟨hx, hb, hml, hown, hts⟩ (cL_quota_ok l hlt D S0 (lG D S0 mm (fun _ => 0)) k o (xs (i + 1).toNatClampNeg) _ h) (vx_cwSW 3 hts gL_law_L_quota rfl rfl rfl (by decide +kernel) ⟨Nat.le_of_ble_eq_true rfl, Nat.le_of_ble_eq_true rfl⟩) (zpreS hE hs (hW.mono lo_in)) rfl rfl hl.1 rfl (lv_room (Nat.le_of_ble_eq_true rfl)) dL_law_1081 ⟨by show _ ≤ 601024; omega, by show _ ≤ 7293034; omega⟩) hW (fun r263 u264 H locs _ h hW => ?_)
        replace hW := hW.mono lo_out
        refine W.widen (k := n + 1) (n := 8 * (n + 1)) (by omega) (by omega) ?_
        refine lv_istore (lv' := [(5, .int r263), (4, .int i), (0, .ref b), (1, .ref S0), (2, .ref (S0 + 9)), (3, .ref (S0 + 29))]) hx hb dL_law_1084 hl (by decide) rfl (fun ls hl => ?_)
        refine lv_aload_n hx hb dL_law_1086 rfl (lv_at hl 4 rfl) ?_
        refine lv_aload_n hx hb dL_law_1087 rfl (lv_at hl 2 rfl) ?_
        refine lv_iload hx hb dL_law_1088 (lv_at hl 1 rfl) ?_
        refine lv_iconst (v := 1) hx hb dL_law_1090 (by decide) ?_
        refine lv_iadd hx hb dL_law_1091 ?_
        obtain ⟨hb_268, h⟩ := h
        refine zw_sld hx hb hX hbl hS0 hW hb_268 dL_law_1092 ?_
        refine zs_i (va_runV (As := [.int (xs (i + 1).toNatClampNeg)]) (rest := []) ⟨hx, hb, hml, hown, hts⟩ (cX6_quota_ok l hlt D S0 (xF D S0 (lG D S0 mm u264.2) u264.1) mm (xs (i + 1).toNatClampNeg) _ h) (cwV 1 hts gL_law_X6_quota rfl rfl rfl (by decide +kernel) ⟨Nat.le_of_ble_eq_true rfl, Nat.le_of_ble_eq_true rfl⟩) (zpreV (q := (RX6, TX6, 24)) hE hs (hW.mono lm_in) mC_M rfl) rfl rfl hl.1 rfl (lv_room (Nat.le_of_ble_eq_true rfl)) dL_law_1093 ⟨by show _ ≤ 601024; omega, by show _ ≤ 7293034; omega⟩) hW (fun r269 m270 H1 locs1 hz h hW1 => ?_)
        replace hW := lm_out hW hW1 hz
        clear hW1
        refine W.widen (k := n + 1) (n := 8 * (n + 1)) (by omega) (by omega) ?_
        refine lv_istore (lv' := [(6, .int r269), (5, .int r263), (4, .int i), (0, .ref b), (1, .ref S0), (2, .ref (S0 + 9)), (3, .ref (S0 + 29))]) hx hb dL_law_1096 hl (by decide) rfl (fun ls hl => ?_)
        refine lv_aload_n hx hb dL_law_1098 rfl (lv_at hl 5 rfl) ?_
        refine zs_i (va_runV (As := []) (rest := []) ⟨hx, hb, hml, hown, hts⟩ (cX6_thrown_ok l hlt D S0 (xF D S0 (lG D S0 m270 u264.2) u264.1) m270 _ h) (cwV 0 hts gL_law_X6_thrown rfl rfl rfl (by decide +kernel) ⟨Nat.le_of_ble_eq_true rfl, Nat.le_of_ble_eq_true rfl⟩) (zpreV (q := (RX6, TX6, 24)) hE hs (hW.mono lm_in) mC_M rfl) rfl rfl hl.1 rfl (lv_room (Nat.le_of_ble_eq_true rfl)) dL_law_1099 ⟨by show _ ≤ 601024; omega, by show _ ≤ 7293034; omega⟩) hW (fun r271 m272 H1 locs1 hz h hW1 => ?_)
        replace hW := lm_out hW hW1 hz
        clear hW1
        refine W.widen (k := n + 1) (n := 8 * (n + 1)) (by omega) (by omega) ?_
        refine lv_iload hx hb dL_law_1102 (lv_at hl 1 rfl) ?_
        refine lv_icmp_eq (tgt := 1109) hx hb dL_law_1104 (by decide) (fun c_273 => ?_) (fun c_273 => ?_)
        · replace h := h.1 c_273
          refine lv_iload hx hb dL_law_1109 (lv_at hl 1 rfl) ?_
          refine lv_if_ne (tgt := 1126) hx hb dL_law_1111 (by decide) (fun c_274 => ?_) (fun c_274 => ?_)
          · replace h := h.2 c_274
            refine lv_goto (tgt := 1129) hx hb dL_law_1126 (by decide) ?_
            refine lv_iinc (v := (i + 3)) (lv' := [(4, .int (i + 3)), (6, .int r269), (5, .int r263), (0, .ref b), (1, .ref S0), (2, .ref (S0 + 9)), (3, .ref (S0 + 29))]) hx hb dL_law_1129 hl (k := 2) rfl rfl (by decide) rfl (fun ls hl => ?_)
            refine lv_goto (tgt := 23) hx hb dL_law_1132 (by decide) ?_
            exact ih (i + 3) (n + 1) u264.1 m272 u264.2 _ _ _ h hW (lv_sub hl [0, 3, 4, 5, 6] rfl)
          · replace h := h.1 c_274
            refine lv_aload_n hx hb dL_law_1114 rfl (lv_at hl 6 rfl) ?_
            refine lv_iconst (v := 0) hx hb dL_law_1115 (by decide) ?_
            refine zw_lald hx hb hE.1 hW lo_C (by unfold vp_in; decide) dL_law_1116 ?_
            refine lv_iload hx hb dL_law_1117 (lv_at hl 0 rfl) ?_
            refine lv_i2l hx hb dL_law_1119 rfl ?_
            refine W.lcmp hx hb dL_law_1120 ?_
            refine lv_if_eq (tgt := 1126) hx hb dL_law_1121 (by decide) (fun c_275 => ?_) (fun c_275 => ?_)
            · replace h := h.1 c_275
              refine lv_goto (tgt := 1129) hx hb dL_law_1126 (by decide) ?_
              refine lv_iinc (v := (i + 3)) (lv' := [(4, .int (i + 3)), (6, .int r269), (5, .int r263), (0, .ref b), (1, .ref S0), (2, .ref (S0 + 9)), (3, .ref (S0 + 29))]) hx hb dL_law_1129 hl (k := 2) rfl rfl (by decide) rfl (fun ls hl => ?_)
              refine lv_goto (tgt := 23) hx hb dL_law_1132 (by decide) ?_
              exact ih (i + 3) (n + 1) u264.1 m272 u264.2 _ _ _ h hW (lv_sub hl [0, 3, 4, 5, 6] rfl)
            · replace h := h.2 c_275
              refine lv_iconst (v := 0) hx hb dL_law_1124 (by decide) ?_
              exact h.elim
        · replace h := h.2 c_273
          refine lv_iconst (v := 0) hx hb dL_law_1107 (by decide) ?_
          exact h.elim
      replace h := h.2
      replace h := h ⟨c_3, c_20, c_35, c_52, c_67, c_82, c_97, c_110, c_127, c_142, c_157, c_172, c_187, c_202, c_217, c_232, c_238, c_255, c_261⟩
      refine lv_tableOut (tgt := 1129) hx hb dL_law_39 (tab_out (lo := 0) (hi := 18) (fun i h1 h2 => by rcases (show i = 0 ∨ i = 1 ∨ i = 2 ∨ i = 3 ∨ i = 4 ∨ i = 5 ∨ i = 6 ∨ i = 7 ∨ i = 8 ∨ i = 9 ∨ i = 10 ∨ i = 11 ∨ i = 12 ∨ i = 13 ∨ i = 14 ∨ i = 15 ∨ i = 16 ∨ i = 17 ∨ i = 18 by omega) with rfl | rfl | rfl | rfl | rfl | rfl | rfl | rfl | rfl | rfl | rfl | rfl | rfl | rfl | rfl | rfl | rfl | rfl | rfl <;> first | exact ti_ne c_3 (by decide) | exact ti_ne c_20 (by decide) | exact ti_ne c_35 (by decide) | exact ti_ne c_52 (by decide) | exact ti_ne c_67 (by decide) | exact ti_ne c_82 (by decide) | exact ti_ne c_97 (by decide) | exact ti_ne c_110 (by decide) | exact ti_ne c_127 (by decide) | exact ti_ne c_142 (by decide) | exact ti_ne c_157 (by decide) | exact ti_ne c_172 (by decide) | exact ti_ne c_187 (by decide) | exact ti_ne c_202 (by decide) | exact ti_ne c_217 (by decide) | exact ti_ne c_232 (by decide) | exact ti_ne c_238 (by decide) | exact ti_ne c_255 (by decide) | exact ti_ne c_261 (by decide))) (by decide) ?_
      refine lv_iinc (v := (i + 3)) (lv' := [(4, .int (i + 3)), (0, .ref b), (1, .ref S0), (2, .ref (S0 + 9)), (3, .ref (S0 + 29))]) hx hb dL_law_1129 hl (k := 0) rfl rfl (by decide) rfl (fun ls hl => ?_)
      refine lv_goto (tgt := 23) hx hb dL_law_1132 (by decide) ?_
      exact ih (i + 3) n k mm o _ _ _ h hW (lv_sub hl [0, 1, 2, 3, 4] rfl)
