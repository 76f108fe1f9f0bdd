/-! PURE: the law's loop over a script -/
theorem cmp_self (x : Int64) : lg_cmp x x = 0 := by
  unfold lg_cmp
  rw [if_neg (by rw [gt_iff_lt, Int64.lt_iff_toInt_lt]; omega), if_pos rfl]
theorem rel_up {c : Nat} {k : kS} {m : mS} (h : Rel c k m) : Rel (c + 1) k m := by
  obtain ⟨n, r, d, t, ca, ra, A, QC, ⟨g1, g2, g3, g4, g5, g6, g7, g8⟩, h2, h3, h4, h5, h6⟩ := h
  exact ⟨n, r, d, t, ca, ra, A, QC, ⟨g1, g2, g3, g4, g5, pA_mono g6 (EB_step c t (x := 0) (by omega)), g7, g8⟩, h2, h3, by omega, h5, by omega⟩
theorem run1 {R : kS → mS → Prop} {E1 : String} {w6 : (Int32 → mS → Prop) → Prop} {w5 : (Int32 → kS → Prop) → (String → kS → Prop) → Prop} (h : OpI1 R E1 w6 w5) {Q : Int32 → kS → Prop} {QX : String → kS → Prop} (h0 : ∀ (k1 : kS) (m1 : mS) (v : Int32), R k1 m1 → m1 23 0 = 0 → (∀ Q2 : Int32 → mS → Prop, Q2 v m1 → w6 Q2) → Q v k1) (h1 : ∀ (k1 : kS) (m1 : mS) (v : Int32), R k1 m1 → m1 23 0 = 1 → (∀ Q2 : Int32 → mS → Prop, Q2 v m1 → w6 Q2) → QX E1 k1) : w5 Q QX := by
  obtain ⟨v, m1, h6, ⟨e, h5⟩ | ⟨e, h5⟩⟩ := h
  · exact h5 Q QX (fun k1 hR => h0 k1 m1 v hR e h6)
  · exact h5 Q QX (fun k1 hR => h1 k1 m1 v hR e h6)
theorem run2 {R : kS → mS → Prop} {E1 : String} {w6 : (Int32 → mS → Prop) → Prop} {w5 : (Int32 → kS → Prop) → (String → kS → Prop) → Prop} (h : OpI R E1 w6 w5) {Q : Int32 → kS → Prop} {QX : String → kS → Prop} (h0 : ∀ (k1 : kS) (m1 : mS) (v : Int32), R k1 m1 → m1 23 0 = 0 → (∀ Q2 : Int32 → mS → Prop, Q2 v m1 → w6 Q2) → Q v k1) (h1 : ∀ (k1 : kS) (m1 : mS) (v : Int32), R k1 m1 → m1 23 0 = 1 → (∀ Q2 : Int32 → mS → Prop, Q2 v m1 → w6 Q2) → QX E1 k1) (h2 : ∀ (k1 : kS) (m1 : mS) (v : Int32), R k1 m1 → m1 23 0 = 2 → (∀ Q2 : Int32 → mS → Prop, Q2 v m1 → w6 Q2) → QX "java/lang/IllegalStateException" k1) : w5 Q QX := by
  obtain ⟨v, m1, h6, ⟨e, h5⟩ | ⟨e, h5⟩ | ⟨e, h5⟩⟩ := h
  · exact h5 Q QX (fun k1 hR => h0 k1 m1 v hR e h6)
  · exact h5 Q QX (fun k1 hR => h1 k1 m1 v hR e h6)
  · exact h5 Q QX (fun k1 hR => h2 k1 m1 v hR e h6)
theorem fin_0 {N : Prop} {x v : Int64} {t : Int32} (ht : t = 0) (hx : x = v) (hN : N) : (t = 0 → (((0 : Int32) = 0 → ((lg_cmp x v = 0 → N) ∧ (¬ lg_cmp x v = 0 → False))) ∧ (¬ (0 : Int32) = 0 → N))) ∧ (¬ t = 0 → False) := by
  subst hx
  exact ⟨fun _ => ⟨fun _ => ⟨fun _ => hN, fun e => e (cmp_self x)⟩, fun _ => hN⟩, fun e => e ht⟩
theorem fin_1 {N X : Prop} {t : Int32} (ht : t = 1) (hN : N) : (t = 1 → (((1 : Int32) = 0 → X) ∧ (¬ (1 : Int32) = 0 → N))) ∧ (¬ t = 1 → False) := ⟨fun _ => ⟨fun e => absurd e (by decide), fun _ => hN⟩, fun e => e ht⟩
theorem fin_2 {N X : Prop} {t : Int32} (ht : t = 2) (hN : N) : (t = 2 → (((2 : Int32) = 0 → X) ∧ (¬ (2 : Int32) = 0 → N))) ∧ (¬ t = 2 → False) := ⟨fun _ => ⟨fun e => absurd e (by decide), fun _ => hN⟩, fun e => e ht⟩
theorem fin_e {N : Prop} {t u : Int32} (ht : t = u) (hN : N) : (t = u → N) ∧ (¬ t = u → False) := ⟨fun _ => hN, fun e => e ht⟩
theorem out_0 (o : Nat → Int64) (x : Int64) : vp_updL o 0 x (0 : Int32).toNatClampNeg = x := if_pos rfl

theorem case_addCopy {N : Int32 → Nat → kS → mS → (Nat → Int64) → Prop} {S0 L c n : Nat} {xs : Nat → Int32} {i : Int32} {k : kS} {m : mS} {o : Nat → Int64} (h : Rel c k m) (hc : c < 512) (hn : n + 601 ≤ 310000) (v1 : vp_in (i + 1) L) (v2 : vp_in (i + 2) L) (hN : ∀ (k1 : kS) (m1 : mS) (o1 : Nat → Int64) (n1 : Nat), n1 ≤ n + 601 → Rel (c + 1) k1 m1 → N (i + 3) n1 k1 m1 o1) : wL_case0 N S0 L xs i n k m o := by
  unfold wL_case0 wL_addCopy
  exact ⟨v1, v2, by omega, run2 (op_addCopy (xs (i + 1).toNatClampNeg) (xs (i + 2).toNatClampNeg) hc h) (fun k1 m1 v hR e h6 => ⟨v1, v2, h6 _ (fin_0 e (out_0 o v.toInt64) (hN k1 m1 (vp_updL o 0 v.toInt64) (n + 2) (by omega) hR))⟩) (fun k1 m1 v hR e h6 => Or.inl ⟨rfl, v1, v2, h6 _ (fin_1 e (hN k1 m1 o (n + 2) (by omega) hR))⟩) (fun k1 m1 v hR e h6 => Or.inr ⟨rfl, v1, v2, h6 _ (fin_2 e (hN k1 m1 o (n + 2) (by omega) hR))⟩)⟩
theorem case_inHandsOf {N : Int32 → Nat → kS → mS → (Nat → Int64) → Prop} {S0 L c n : Nat} {xs : Nat → Int32} {i : Int32} {k : kS} {m : mS} {o : Nat → Int64} (h : Rel c k m) (hc : c < 512) (hn : n + 601 ≤ 310000) (v1 : vp_in (i + 1) L) (v2 : vp_in (i + 2) L) (hN : ∀ (k1 : kS) (m1 : mS) (o1 : Nat → Int64) (n1 : Nat), n1 ≤ n + 601 → Rel (c + 1) k1 m1 → N (i + 3) n1 k1 m1 o1) : wL_case1 N S0 L xs i n k m o := by
  unfold wL_case1 wL_inHandsOf
  exact ⟨v1, by omega, run1 (op_inHandsOf (xs (i + 1).toNatClampNeg) h) (fun k1 m1 v hR e h6 => ⟨v1, h6 _ (fin_0 e (out_0 o v.toInt64) (hN k1 m1 (vp_updL o 0 v.toInt64) (n + 1) (by omega) hR))⟩) (fun k1 m1 v hR e h6 => ⟨rfl, v1, h6 _ (fin_1 e (hN k1 m1 o (n + 1) (by omega) hR))⟩)⟩
theorem case_isFree {N : Int32 → Nat → kS → mS → (Nat → Int64) → Prop} {S0 L c n : Nat} {xs : Nat → Int32} {i : Int32} {k : kS} {m : mS} {o : Nat → Int64} (h : Rel c k m) (hc : c < 512) (hn : n + 601 ≤ 310000) (v1 : vp_in (i + 1) L) (v2 : vp_in (i + 2) L) (hN : ∀ (k1 : kS) (m1 : mS) (o1 : Nat → Int64) (n1 : Nat), n1 ≤ n + 601 → Rel (c + 1) k1 m1 → N (i + 3) n1 k1 m1 o1) : wL_case2 N S0 L xs i n k m o := by
  unfold wL_case2 wL_isFree
  refine ⟨v1, by omega, run1 (op_isFree (xs (i + 1).toNatClampNeg) h) (fun k1 m1 v hR e h6 => ⟨v1, h6 _ ?_⟩) (fun k1 m1 v hR e h6 => ?_)⟩
  · have hI1 := hN k1 m1 (vp_updL o 0 (if v = 0 then 0 else 1)) (n + 1) (by omega) hR
    refine ⟨fun _ => ⟨fun _ => ⟨fun e0 => ?_, fun e0 => ?_⟩, fun e9 => absurd rfl e9⟩, fun e9 => absurd e e9⟩
    · show ((lg_cmp (vp_updL o 0 (if v = 0 then 0 else 1) (0 : Int32).toNatClampNeg) (0 : Int64)) = 0 → N (i + 3) (n + 1) k1 m1 (vp_updL o 0 (if v = 0 then 0 else 1))) ∧ (¬ (lg_cmp (vp_updL o 0 (if v = 0 then 0 else 1) (0 : Int32).toNatClampNeg) (0 : Int64)) = 0 → False)
      rw [show (if v = 0 then (0 : Int64) else 1) = 0 from if_pos e0] at hI1 ⊢
      rw [out_0, cmp_self]
      exact ⟨fun _ => hI1, fun e9 => absurd rfl e9⟩
    · show ((lg_cmp (vp_updL o 0 (if v = 0 then 0 else 1) (0 : Int32).toNatClampNeg) (1 : Int64)) = 0 → N (i + 3) (n + 1) k1 m1 (vp_updL o 0 (if v = 0 then 0 else 1))) ∧ (¬ (lg_cmp (vp_updL o 0 (if v = 0 then 0 else 1) (0 : Int32).toNatClampNeg) (1 : Int64)) = 0 → False)
      rw [show (if v = 0 then (0 : Int64) else 1) = 1 from if_neg e0] at hI1 ⊢
      rw [out_0, cmp_self]
      exact ⟨fun _ => hI1, fun e9 => absurd rfl e9⟩
  · exact ⟨rfl, v1, h6 _ (fin_1 e (hN k1 m1 o (n + 1) (by omega) hR))⟩
theorem case_listed {N : Int32 → Nat → kS → mS → (Nat → Int64) → Prop} {S0 L c n : Nat} {xs : Nat → Int32} {i : Int32} {k : kS} {m : mS} {o : Nat → Int64} (h : Rel c k m) (hc : c < 512) (hn : n + 601 ≤ 310000) (v1 : vp_in (i + 1) L) (v2 : vp_in (i + 2) L) (hN : ∀ (k1 : kS) (m1 : mS) (o1 : Nat → Int64) (n1 : Nat), n1 ≤ n + 601 → Rel (c + 1) k1 m1 → N (i + 3) n1 k1 m1 o1) : wL_case3 N S0 L xs i n k m o := by
  unfold wL_case3 wL_listed
  exact ⟨v1, by omega, run1 (op_listed (xs (i + 1).toNatClampNeg) h) (fun k1 m1 v hR e h6 => ⟨v1, h6 _ (fin_0 e (out_0 o v.toInt64) (hN k1 m1 (vp_updL o 0 v.toInt64) (n + 1) (by omega) hR))⟩) (fun k1 m1 v hR e h6 => ⟨rfl, v1, h6 _ (fin_1 e (hN k1 m1 o (n + 1) (by omega) hR))⟩)⟩
theorem case_harm {N : Int32 → Nat → kS → mS → (Nat → Int64) → Prop} {S0 L c n : Nat} {xs : Nat → Int32} {i : Int32} {k : kS} {m : mS} {o : Nat → Int64} (h : Rel c k m) (hc : c < 512) (hn : n + 601 ≤ 310000) (v1 : vp_in (i + 1) L) (v2 : vp_in (i + 2) L) (hN : ∀ (k1 : kS) (m1 : mS) (o1 : Nat → Int64) (n1 : Nat), n1 ≤ n + 601 → Rel (c + 1) k1 m1 → N (i + 3) n1 k1 m1 o1) : wL_case4 N S0 L xs i n k m o := by
  unfold wL_case4 wL_harm
  exact ⟨v1, by omega, run2 (op_harm (xs (i + 1).toNatClampNeg) h) (fun k1 m1 v hR e h6 => ⟨v1, h6 _ (fin_0 e (out_0 o v.toInt64) (hN k1 m1 (vp_updL o 0 v.toInt64) (n + 2) (by omega) hR))⟩) (fun k1 m1 v hR e h6 => Or.inl ⟨rfl, v1, h6 _ (fin_1 e (hN k1 m1 o (n + 2) (by omega) hR))⟩) (fun k1 m1 v hR e h6 => Or.inr ⟨rfl, v1, h6 _ (fin_2 e (hN k1 m1 o (n + 2) (by omega) hR))⟩)⟩
theorem case_look {N : Int32 → Nat → kS → mS → (Nat → Int64) → Prop} {S0 L c n : Nat} {xs : Nat → Int32} {i : Int32} {k : kS} {m : mS} {o : Nat → Int64} (h : Rel c k m) (hc : c < 512) (hn : n + 601 ≤ 310000) (v1 : vp_in (i + 1) L) (v2 : vp_in (i + 2) L) (hN : ∀ (k1 : kS) (m1 : mS) (o1 : Nat → Int64) (n1 : Nat), n1 ≤ n + 601 → Rel (c + 1) k1 m1 → N (i + 3) n1 k1 m1 o1) : wL_case5 N S0 L xs i n k m o := by
  unfold wL_case5 wL_look
  exact ⟨v1, by omega, run2 (op_look (xs (i + 1).toNatClampNeg) hc h) (fun k1 m1 v hR e h6 => ⟨v1, h6 _ (fin_0 e (out_0 o v.toInt64) (hN k1 m1 (vp_updL o 0 v.toInt64) (n + 2) (by omega) hR))⟩) (fun k1 m1 v hR e h6 => Or.inl ⟨rfl, v1, h6 _ (fin_1 e (hN k1 m1 o (n + 2) (by omega) hR))⟩) (fun k1 m1 v hR e h6 => Or.inr ⟨rfl, v1, h6 _ (fin_2 e (hN k1 m1 o (n + 2) (by omega) hR))⟩)⟩
theorem case_mend {N : Int32 → Nat → kS → mS → (Nat → Int64) → Prop} {S0 L c n : Nat} {xs : Nat → Int32} {i : Int32} {k : kS} {m : mS} {o : Nat → Int64} (h : Rel c k m) (hc : c < 512) (hn : n + 601 ≤ 310000) (v1 : vp_in (i + 1) L) (v2 : vp_in (i + 2) L) (hN : ∀ (k1 : kS) (m1 : mS) (o1 : Nat → Int64) (n1 : Nat), n1 ≤ n + 601 → Rel (c + 1) k1 m1 → N (i + 3) n1 k1 m1 o1) : wL_case6 N S0 L xs i n k m o := by
  unfold wL_case6 wL_mend
  refine ⟨v1, by omega, run2 (op_mend (xs (i + 1).toNatClampNeg) hc h) (Q := fun _ u => vp_in (i + 1) L ∧ (wX6_mend m (xs (i + 1).toNatClampNeg) (fun m106 => (wX6_thrown m106 (fun r107 m108 => ((r107 = 0 → (N (i + 3) (n + 2) u m108 o)) ∧ (¬ r107 = 0 → False))))))) (QX := fun E u => (E = "java/lang/IndexOutOfBoundsException" ∧ vp_in (i + 1) L ∧ (wX6_mend m (xs (i + 1).toNatClampNeg) (fun m106 => (wX6_thrown m106 (fun r107 m108 => ((r107 = 1 → (N (i + 3) (n + 2) u m108 o)) ∧ (¬ r107 = 1 → False))))))) ∨ (E = "java/lang/IllegalStateException" ∧ vp_in (i + 1) L ∧ (wX6_mend m (xs (i + 1).toNatClampNeg) (fun m106 => (wX6_thrown m106 (fun r107 m108 => ((r107 = 2 → (N (i + 3) (n + 2) u m108 o)) ∧ (¬ r107 = 2 → False)))))))) (fun k1 m1 v hR e h6 => ⟨v1, h6 (fun _ m106 => (wX6_thrown m106 (fun r107 m108 => ((r107 = 0 → (N (i + 3) (n + 2) k1 m108 o)) ∧ (¬ r107 = 0 → False))))) (fin_e e (hN k1 m1 o (n + 2) (by omega) hR))⟩) (fun k1 m1 v hR e h6 => Or.inl ⟨rfl, v1, h6 (fun _ m106 => (wX6_thrown m106 (fun r107 m108 => ((r107 = 1 → (N (i + 3) (n + 2) k1 m108 o)) ∧ (¬ r107 = 1 → False))))) (fin_e e (hN k1 m1 o (n + 2) (by omega) hR))⟩) (fun k1 m1 v hR e h6 => Or.inr ⟨rfl, v1, h6 (fun _ m106 => (wX6_thrown m106 (fun r107 m108 => ((r107 = 2 → (N (i + 3) (n + 2) k1 m108 o)) ∧ (¬ r107 = 2 → False))))) (fin_e e (hN k1 m1 o (n + 2) (by omega) hR))⟩)⟩
theorem case_request {N : Int32 → Nat → kS → mS → (Nat → Int64) → Prop} {S0 L c n : Nat} {xs : Nat → Int32} {i : Int32} {k : kS} {m : mS} {o : Nat → Int64} (h : Rel c k m) (hc : c < 512) (hn : n + 601 ≤ 310000) (v1 : vp_in (i + 1) L) (v2 : vp_in (i + 2) L) (hN : ∀ (k1 : kS) (m1 : mS) (o1 : Nat → Int64) (n1 : Nat), n1 ≤ n + 601 → Rel (c + 1) k1 m1 → N (i + 3) n1 k1 m1 o1) : wL_case7 N S0 L xs i n k m o := by
  unfold wL_case7 wL_request
  exact ⟨v1, v2, by omega, run2 (op_request (xs (i + 1).toNatClampNeg) (xs (i + 2).toNatClampNeg) hc h) (fun k1 m1 v hR e h6 => ⟨v1, v2, h6 _ (fin_0 e (out_0 o v.toInt64) (hN k1 m1 (vp_updL o 0 v.toInt64) (n + 2) (by omega) hR))⟩) (fun k1 m1 v hR e h6 => Or.inl ⟨rfl, v1, v2, h6 _ (fin_1 e (hN k1 m1 o (n + 2) (by omega) hR))⟩) (fun k1 m1 v hR e h6 => Or.inr ⟨rfl, v1, v2, h6 _ (fin_2 e (hN k1 m1 o (n + 2) (by omega) hR))⟩)⟩
theorem case_state {N : Int32 → Nat → kS → mS → (Nat → Int64) → Prop} {S0 L c n : Nat} {xs : Nat → Int32} {i : Int32} {k : kS} {m : mS} {o : Nat → Int64} (h : Rel c k m) (hc : c < 512) (hn : n + 601 ≤ 310000) (v1 : vp_in (i + 1) L) (v2 : vp_in (i + 2) L) (hN : ∀ (k1 : kS) (m1 : mS) (o1 : Nat → Int64) (n1 : Nat), n1 ≤ n + 601 → Rel (c + 1) k1 m1 → N (i + 3) n1 k1 m1 o1) : wL_case8 N S0 L xs i n k m o := by
  unfold wL_case8 wL_state
  exact ⟨v1, by omega, run1 (op_state (xs (i + 1).toNatClampNeg) h) (fun k1 m1 v hR e h6 => ⟨v1, h6 _ (fin_0 e (out_0 o v.toInt64) (hN k1 m1 (vp_updL o 0 v.toInt64) (n + 1) (by omega) hR))⟩) (fun k1 m1 v hR e h6 => ⟨rfl, v1, h6 _ (fin_1 e (hN k1 m1 o (n + 1) (by omega) hR))⟩)⟩
theorem case_copyOf {N : Int32 → Nat → kS → mS → (Nat → Int64) → Prop} {S0 L c n : Nat} {xs : Nat → Int32} {i : Int32} {k : kS} {m : mS} {o : Nat → Int64} (h : Rel c k m) (hc : c < 512) (hn : n + 601 ≤ 310000) (v1 : vp_in (i + 1) L) (v2 : vp_in (i + 2) L) (hN : ∀ (k1 : kS) (m1 : mS) (o1 : Nat → Int64) (n1 : Nat), n1 ≤ n + 601 → Rel (c + 1) k1 m1 → N (i + 3) n1 k1 m1 o1) : wL_case9 N S0 L xs i n k m o := by
  unfold wL_case9 wL_copyOf
  exact ⟨v1, by omega, run1 (op_copyOf (xs (i + 1).toNatClampNeg) h) (fun k1 m1 v hR e h6 => ⟨v1, h6 _ (fin_0 e (out_0 o v.toInt64) (hN k1 m1 (vp_updL o 0 v.toInt64) (n + 1) (by omega) hR))⟩) (fun k1 m1 v hR e h6 => ⟨rfl, v1, h6 _ (fin_1 e (hN k1 m1 o (n + 1) (by omega) hR))⟩)⟩
theorem case_due {N : Int32 → Nat → kS → mS → (Nat → Int64) → Prop} {S0 L c n : Nat} {xs : Nat → Int32} {i : Int32} {k : kS} {m : mS} {o : Nat → Int64} (h : Rel c k m) (hc : c < 512) (hn : n + 601 ≤ 310000) (v1 : vp_in (i + 1) L) (v2 : vp_in (i + 2) L) (hN : ∀ (k1 : kS) (m1 : mS) (o1 : Nat → Int64) (n1 : Nat), n1 ≤ n + 601 → Rel (c + 1) k1 m1 → N (i + 3) n1 k1 m1 o1) : wL_case10 N S0 L xs i n k m o := by
  unfold wL_case10 wL_due
  exact ⟨v1, by omega, run2 (op_due (xs (i + 1).toNatClampNeg) h) (fun k1 m1 v hR e h6 => ⟨v1, h6 _ (fin_0 e (out_0 o v.toInt64) (hN k1 m1 (vp_updL o 0 v.toInt64) (n + 2) (by omega) hR))⟩) (fun k1 m1 v hR e h6 => Or.inl ⟨rfl, v1, h6 _ (fin_1 e (hN k1 m1 o (n + 2) (by omega) hR))⟩) (fun k1 m1 v hR e h6 => Or.inr ⟨rfl, v1, h6 _ (fin_2 e (hN k1 m1 o (n + 2) (by omega) hR))⟩)⟩
theorem case_renew {N : Int32 → Nat → kS → mS → (Nat → Int64) → Prop} {S0 L c n : Nat} {xs : Nat → Int32} {i : Int32} {k : kS} {m : mS} {o : Nat → Int64} (h : Rel c k m) (hc : c < 512) (hn : n + 601 ≤ 310000) (v1 : vp_in (i + 1) L) (v2 : vp_in (i + 2) L) (hN : ∀ (k1 : kS) (m1 : mS) (o1 : Nat → Int64) (n1 : Nat), n1 ≤ n + 601 → Rel (c + 1) k1 m1 → N (i + 3) n1 k1 m1 o1) : wL_case11 N S0 L xs i n k m o := by
  unfold wL_case11 wL_renew
  exact ⟨v1, by omega, run2 (op_renew (xs (i + 1).toNatClampNeg) hc h) (fun k1 m1 v hR e h6 => ⟨v1, h6 _ (fin_0 e (out_0 o v.toInt64) (hN k1 m1 (vp_updL o 0 v.toInt64) (n + 2) (by omega) hR))⟩) (fun k1 m1 v hR e h6 => Or.inl ⟨rfl, v1, h6 _ (fin_1 e (hN k1 m1 o (n + 2) (by omega) hR))⟩) (fun k1 m1 v hR e h6 => Or.inr ⟨rfl, v1, h6 _ (fin_2 e (hN k1 m1 o (n + 2) (by omega) hR))⟩)⟩
theorem case_recall {N : Int32 → Nat → kS → mS → (Nat → Int64) → Prop} {S0 L c n : Nat} {xs : Nat → Int32} {i : Int32} {k : kS} {m : mS} {o : Nat → Int64} (h : Rel c k m) (hc : c < 512) (hn : n + 601 ≤ 310000) (v1 : vp_in (i + 1) L) (v2 : vp_in (i + 2) L) (hN : ∀ (k1 : kS) (m1 : mS) (o1 : Nat → Int64) (n1 : Nat), n1 ≤ n + 601 → Rel (c + 1) k1 m1 → N (i + 3) n1 k1 m1 o1) : wL_case12 N S0 L xs i n k m o := by
  unfold wL_case12 wL_recall
  exact ⟨v1, by omega, run2 (op_recall (xs (i + 1).toNatClampNeg) hc h) (fun k1 m1 v hR e h6 => ⟨v1, h6 _ (fin_0 e (out_0 o v.toInt64) (hN k1 m1 (vp_updL o 0 v.toInt64) (n + 2) (by omega) hR))⟩) (fun k1 m1 v hR e h6 => Or.inl ⟨rfl, v1, h6 _ (fin_1 e (hN k1 m1 o (n + 2) (by omega) hR))⟩) (fun k1 m1 v hR e h6 => Or.inr ⟨rfl, v1, h6 _ (fin_2 e (hN k1 m1 o (n + 2) (by omega) hR))⟩)⟩
theorem case_sendBack {N : Int32 → Nat → kS → mS → (Nat → Int64) → Prop} {S0 L c n : Nat} {xs : Nat → Int32} {i : Int32} {k : kS} {m : mS} {o : Nat → Int64} (h : Rel c k m) (hc : c < 512) (hn : n + 601 ≤ 310000) (v1 : vp_in (i + 1) L) (v2 : vp_in (i + 2) L) (hN : ∀ (k1 : kS) (m1 : mS) (o1 : Nat → Int64) (n1 : Nat), n1 ≤ n + 601 → Rel (c + 1) k1 m1 → N (i + 3) n1 k1 m1 o1) : wL_case13 N S0 L xs i n k m o := by
  unfold wL_case13 wL_sendBack
  exact ⟨v1, by omega, run2 (op_sendBack (xs (i + 1).toNatClampNeg) hc h) (fun k1 m1 v hR e h6 => ⟨v1, h6 _ (fin_0 e (out_0 o v.toInt64) (hN k1 m1 (vp_updL o 0 v.toInt64) (n + 2) (by omega) hR))⟩) (fun k1 m1 v hR e h6 => Or.inl ⟨rfl, v1, h6 _ (fin_1 e (hN k1 m1 o (n + 2) (by omega) hR))⟩) (fun k1 m1 v hR e h6 => Or.inr ⟨rfl, v1, h6 _ (fin_2 e (hN k1 m1 o (n + 2) (by omega) hR))⟩)⟩
theorem case_owes {N : Int32 → Nat → kS → mS → (Nat → Int64) → Prop} {S0 L c n : Nat} {xs : Nat → Int32} {i : Int32} {k : kS} {m : mS} {o : Nat → Int64} (h : Rel c k m) (hc : c < 512) (hn : n + 601 ≤ 310000) (v1 : vp_in (i + 1) L) (v2 : vp_in (i + 2) L) (hN : ∀ (k1 : kS) (m1 : mS) (o1 : Nat → Int64) (n1 : Nat), n1 ≤ n + 601 → Rel (c + 1) k1 m1 → N (i + 3) n1 k1 m1 o1) : wL_case16 N S0 L xs i n k m o := by
  unfold wL_case16 wL_owes
  exact ⟨v1, v2, by omega, run1 (op_owes (xs (i + 1).toNatClampNeg) (xs (i + 2).toNatClampNeg) h) (fun k1 m1 v hR e h6 => ⟨v1, v2, h6 _ (fin_0 e (out_0 o v.toInt64) (hN k1 m1 (vp_updL o 0 v.toInt64) (n + 1) (by omega) hR))⟩) (fun k1 m1 v hR e h6 => ⟨rfl, v1, v2, h6 _ (fin_1 e (hN k1 m1 o (n + 1) (by omega) hR))⟩)⟩
theorem case_quota {N : Int32 → Nat → kS → mS → (Nat → Int64) → Prop} {S0 L c n : Nat} {xs : Nat → Int32} {i : Int32} {k : kS} {m : mS} {o : Nat → Int64} (h : Rel c k m) (hc : c < 512) (hn : n + 601 ≤ 310000) (v1 : vp_in (i + 1) L) (v2 : vp_in (i + 2) L) (hN : ∀ (k1 : kS) (m1 : mS) (o1 : Nat → Int64) (n1 : Nat), n1 ≤ n + 601 → Rel (c + 1) k1 m1 → N (i + 3) n1 k1 m1 o1) : wL_case18 N S0 L xs i n k m o := by
  unfold wL_case18 wL_quota
  exact ⟨v1, by omega, run1 (op_quota (xs (i + 1).toNatClampNeg) h) (fun k1 m1 v hR e h6 => ⟨v1, h6 _ (fin_0 e (out_0 o v.toInt64) (hN k1 m1 (vp_updL o 0 v.toInt64) (n + 1) (by omega) hR))⟩) (fun k1 m1 v hR e h6 => ⟨rfl, v1, h6 _ (fin_1 e (hN k1 m1 o (n + 1) (by omega) hR))⟩)⟩
theorem case_pass {N : Int32 → Nat → kS → mS → (Nat → Int64) → Prop} {S0 L c n : Nat} {xs : Nat → Int32} {i : Int32} {k : kS} {m : mS} {o : Nat → Int64} (h : Rel c k m) (hc : c < 512) (hn : n + 601 ≤ 310000) (v1 : vp_in (i + 1) L) (v2 : vp_in (i + 2) L) (hN : ∀ (k1 : kS) (m1 : mS) (o1 : Nat → Int64) (n1 : Nat), n1 ≤ n + 601 → Rel (c + 1) k1 m1 → N (i + 3) n1 k1 m1 o1) : wL_case14 N S0 L xs i n k m o := by
  unfold wL_case14 wL_pass
  exact ⟨v1, by omega, op_pass (xs (i + 1).toNatClampNeg) hc h _ _ (fun k1 v m1 hR e h6 => ⟨v1, h6 _ (fin_0 e (out_0 o v.toInt64) (hN k1 m1 (vp_updL o 0 v.toInt64) (n + 601) (by omega) hR))⟩) (fun m1 hR e h6 => ⟨rfl, v1, h6 _ (fin_1 e (hN k m1 o (n + 601) (by omega) hR))⟩)⟩
theorem case_today {N : Int32 → Nat → kS → mS → (Nat → Int64) → Prop} {S0 L c n : Nat} {xs : Nat → Int32} {i : Int32} {k : kS} {m : mS} {o : Nat → Int64} (h : Rel c k m) (hc : c < 512) (hn : n + 601 ≤ 310000) (v1 : vp_in (i + 1) L) (v2 : vp_in (i + 2) L) (hN : ∀ (k1 : kS) (m1 : mS) (o1 : Nat → Int64) (n1 : Nat), n1 ≤ n + 601 → Rel (c + 1) k1 m1 → N (i + 3) n1 k1 m1 o1) : wL_case15 N S0 L xs i n k m o := by
  unfold wL_case15
  obtain ⟨v, m1, h6, h5⟩ := op_today (S0 := S0) h
  exact h5 _ (fun k1 hR => h6 _ (fin_e rfl (hN k1 m1 o n (by omega) hR)))
theorem case_settle {N : Int32 → Nat → kS → mS → (Nat → Int64) → Prop} {S0 L c n : Nat} {xs : Nat → Int32} {i : Int32} {k : kS} {m : mS} {o : Nat → Int64} (h : Rel c k m) (hc : c < 512) (hn : n + 601 ≤ 310000) (v1 : vp_in (i + 1) L) (v2 : vp_in (i + 2) L) (hN : ∀ (k1 : kS) (m1 : mS) (o1 : Nat → Int64) (n1 : Nat), n1 ≤ n + 601 → Rel (c + 1) k1 m1 → N (i + 3) n1 k1 m1 o1) : wL_case17 N S0 L xs i n k m o := by
  unfold wL_case17
  obtain ⟨v, m1, h6, h5⟩ := op_settle (S0 := S0) hc h
  exact h5 _ (fun k1 hR => h6 _ (fin_e rfl (hN k1 m1 o n (by omega) hR)))
set_option maxRecDepth 100000 in
theorem law_all {S0 L : Nat} {xs : Nat → Int32} (hL : L ≤ 1536) : ∀ (y c n : Nat) (k : kS) (m : mS) (o : Nat → Int64), c + y = 512 → n ≤ 2000 + 601 * c → Rel c k m → wL_loop S0 L xs (y + 1) (nI (3 * c)) n k m o := by
  have hlim : ∀ c, c ≤ 512 → (((Int32.ofNat L) - 3 < nI (3 * c)) ↔ L < 3 * c + 3) := by
    intro c hc
    show (nI L - 3 < nI (3 * c)) ↔ _
    have h3 : (3 : Int32).toInt = 3 := rfl
    rw [Int32.lt_iff_toInt_lt, q_sub (by rw [q_ti (by omega), h3]; omega) (by rw [q_ti (by omega), h3]; omega), q_ti (by omega), q_ti (by omega), h3]
    omega
  intro y
  induction y with
  | zero =>
    intro c n k m o hc hn hR
    unfold wL_loop
    refine ⟨by omega, fun _ => trivial, fun e => ?_⟩
    rw [hlim c (by omega)] at e
    omega
  | succ y ih =>
    intro c n k m o hc hn hR
    unfold wL_loop
    refine ⟨by omega, fun _ => trivial, fun e => ?_⟩
    rw [hlim c (by omega)] at e
    have v0 : vp_in (nI (3 * c)) L := q_in (by omega) (by omega)
    have v1 : vp_in (nI (3 * c) + 1) L := by rw [nI_1]; exact q_in (by omega) (by omega)
    have v2 : vp_in (nI (3 * c) + 2) L := by rw [show (2 : Int32) = nI 2 from rfl, nI_add]; exact q_in (by omega) (by omega)
    have hN : ∀ (k1 : kS) (m1 : mS) (o1 : Nat → Int64) (n1 : Nat), n1 ≤ n + 601 → Rel (c + 1) k1 m1 → wL_loop S0 L xs (y + 1) (nI (3 * c) + 3) n1 k1 m1 o1 := by
      intro k1 m1 o1 n1 hn1 hR1
      rw [show (3 : Int32) = nI 3 from rfl, nI_add, show 3 * c + 3 = 3 * (c + 1) by omega]
      have a1 : c + 1 + y = 512 := by omega
      have a2 : n1 ≤ 2000 + 601 * (c + 1) := by omega
      exact ih (c + 1) n1 k1 m1 o1 a1 a2 hR1
    exact ⟨v0, fun _ => case_addCopy hR (by omega) (by omega) v1 v2 hN, fun _ => case_inHandsOf hR (by omega) (by omega) v1 v2 hN, fun _ => case_isFree hR (by omega) (by omega) v1 v2 hN, fun _ => case_listed hR (by omega) (by omega) v1 v2 hN, fun _ => case_harm hR (by omega) (by omega) v1 v2 hN, fun _ => case_look hR (by omega) (by omega) v1 v2 hN, fun _ => case_mend hR (by omega) (by omega) v1 v2 hN, fun _ => case_request hR (by omega) (by omega) v1 v2 hN, fun _ => case_state hR (by omega) (by omega) v1 v2 hN, fun _ => case_copyOf hR (by omega) (by omega) v1 v2 hN, fun _ => case_due hR (by omega) (by omega) v1 v2 hN, fun _ => case_renew hR (by omega) (by omega) v1 v2 hN, fun _ => case_recall hR (by omega) (by omega) v1 v2 hN, fun _ => case_sendBack hR (by omega) (by omega) v1 v2 hN, fun _ => case_pass hR (by omega) (by omega) v1 v2 hN, fun _ => case_today hR (by omega) (by omega) v1 v2 hN, fun _ => case_owes hR (by omega) (by omega) v1 v2 hN, fun _ => case_settle hR (by omega) (by omega) v1 v2 hN, fun _ => case_quota hR (by omega) (by omega) v1 v2 hN, fun _ => hN _ _ _ _ (by omega) (rel_up hR)⟩
