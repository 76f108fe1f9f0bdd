/-! 'act': what may have come of it -/
def lowv (v : Int32) (N : Nat) : Int32 := (v &&& 2147483647) - (v &&& 2147483647) / nI N * nI N
theorem lowv_rng (v : Int32) {N : Nat} (hN : 1 < N) (hN2 : N < 1000) : ∃ w, w < N ∧ lowv v N = nI w := lw_rng v hN hN2
theorem low_v {S0 : Nat} {k : kS} {Q : Int32 → kS → Prop} (v : Int32) {N : Nat} (hN : 1 < N) (hN2 : N < 1000) (q : Q (lowv v N) k) : wL_low S0 k v (nI N) Q := ⟨nI_ne0 (by omega) (by omega), q⟩
def lH (x : Int32) : Int32 := lowv (x >>> (4 &&& 31)) 6
def lT (x : Int32) : Int32 := lowv (x >>> (9 &&& 31)) 2
/-- days have passed -/
def PPs (m : mS) (cc : Nat) (v : Int32) (m1 : mS) : Prop := ∃ n r, m 7 0 = nI n ∧ m1 7 0 = nI n ∧ m 15 0 = nI r ∧ m1 15 0 = nI r ∧ n ≤ 20 ∧ r ≤ 40 ∧ J m n r cc 0 (i2n (m 19 0)) ∧ J m1 n r cc 0 (i2n (m1 19 0)) ∧ GO r (m 10) (m1 10) ∧ Vn v ∧ (∃ d P, m 22 0 = nI d ∧ m1 22 0 = nI (d + P) ∧ 1 ≤ P ∧ d + P ≤ 60000) ∧ (∀ a, kc4 a → m1 a = m a)
def OUT (m : mS) (cc kd : Nat) (x v : Int32) (m1 : mS) : Prop :=
  ((v = -2 ∨ v = -3 ∨ v = -4) ∧ ∃ y, m1 = mset m 23 0 y) ∨ (kd = 0 ∧ PAd m cc (lH x) (lT x) v m1) ∨ ((kd = 1 ∨ kd = 2) ∧ PRq m cc (lH x) (lT x) v m1) ∨ (3 ≤ kd ∧ kd ≤ 8 ∧ PQ m cc Vn v m1) ∨ (kd = 9 ∧ PSt m cc v m1) ∨ (9 < kd ∧ PPs m cc v m1)
section AC
variable {S0 c cc kd : Nat} {k : kS} {m : mS} {x : Int32} {Q : Int32 → kS → Prop}
theorem ref_o {v y : Int32} (h : v = -2 ∨ v = -3 ∨ v = -4) : OUT m cc kd x v (mset m 23 0 y) := Or.inl ⟨h, y, rfl⟩
theorem added_ok {p p2 : Int32} (hc : c < 512) (hR : Rel c k m) (hJ : JX m cc) (hp : ∀ v m1, PAd m cc p p2 v m1 → OUT m cc kd x v m1) (q : ∀ v k1 m1, Rel (c + 1) k1 m1 → OUT m cc kd x v m1 → Q v k1) : wL_added S0 k p p2 Q :=
  op_run (oj_addCopy (cc := cc) p p2 hc hR hJ) (fun v m1 k1 h hk => q v k1 m1 hk (hp v m1 h)) (fun y k1 hk => Or.inl ⟨rfl, q _ k1 _ hk (ref_o (Or.inr (Or.inl rfl)))⟩) (fun y k1 hk => Or.inr ⟨rfl, q _ k1 _ hk (ref_o (Or.inr (Or.inr rfl)))⟩)
theorem asked_ok {p p2 : Int32} (hc : c < 512) (hR : Rel c k m) (hJ : JX m cc) (hp : ∀ v m1, PRq m cc p p2 v m1 → OUT m cc kd x v m1) (q : ∀ v k1 m1, Rel (c + 1) k1 m1 → OUT m cc kd x v m1 → Q v k1) : wL_asked S0 k p p2 Q :=
  op_run (oj_request (cc := cc) p p2 hc hR hJ) (fun v m1 k1 h hk => q v k1 m1 hk (hp v m1 h)) (fun y k1 hk => Or.inl ⟨rfl, q _ k1 _ hk (ref_o (Or.inr (Or.inl rfl)))⟩) (fun y k1 hk => Or.inr ⟨rfl, q _ k1 _ hk (ref_o (Or.inr (Or.inr rfl)))⟩)
theorem out_q {v : Int32} {m1 : mS} (h3 : 3 ≤ kd) (h8 : kd ≤ 8) (h : PQ m cc Vn v m1) : OUT m cc kd x v m1 := Or.inr (Or.inr (Or.inr (Or.inl ⟨h3, h8, h⟩)))
theorem harmed_ok {p : Int32} (h3 : 3 ≤ kd) (h8 : kd ≤ 8) (hR : Rel c k m) (hJ : JX m cc) (q : ∀ v k1 m1, Rel (c + 1) k1 m1 → OUT m cc kd x v m1 → Q v k1) : wL_harmed S0 k p Q :=
  op_run (oj_harm (cc := cc) p hR hJ) (fun v m1 k1 h hk => q v k1 m1 hk (out_q h3 h8 h)) (fun y k1 hk => Or.inl ⟨rfl, q _ k1 _ hk (ref_o (Or.inl rfl))⟩) (fun y k1 hk => Or.inr ⟨rfl, q _ k1 _ hk (ref_o (Or.inr (Or.inr rfl)))⟩)
theorem looked_ok {p : Int32} (h3 : 3 ≤ kd) (h8 : kd ≤ 8) (hc : c < 512) (hR : Rel c k m) (hJ : JX m cc) (q : ∀ v k1 m1, Rel (c + 1) k1 m1 → OUT m cc kd x v m1 → Q v k1) : wL_looked S0 k p Q := by
  refine op_run (oj_look (cc := cc) p hc hR hJ) (fun v m1 k1 h hk => q (16 + v) k1 m1 hk (out_q h3 h8 ?_)) (fun y k1 hk => Or.inl ⟨rfl, q _ k1 _ hk (ref_o (Or.inl rfl))⟩) (fun y k1 hk => Or.inr ⟨rfl, q _ k1 _ hk (ref_o (Or.inr (Or.inr rfl)))⟩)
  obtain ⟨h1, h2, h3', h4, h5⟩ := h
  refine ⟨h1, h2, h3', h4, ?_⟩
  rcases h5 with e | ⟨w, hw, e⟩
  · rw [e]; exact ⟨15, by omega, by decide⟩
  · rw [e, show (16 : Int32) = nI 16 from rfl, nI_add]
    exact ⟨_, by omega, rfl⟩
theorem mended_ok {p : Int32} (h3 : 3 ≤ kd) (h8 : kd ≤ 8) (hc : c < 512) (hR : Rel c k m) (hJ : JX m cc) (q : ∀ v k1 m1, Rel (c + 1) k1 m1 → OUT m cc kd x v m1 → Q v k1) : wL_mended S0 k p Q := by
  have h := op_run (oj_mend (S0 := S0) (cc := cc) p hc hR hJ) (Q := fun _ u => Q 0 u) (QX := fun E u => (E = "java/lang/IndexOutOfBoundsException" ∧ Q (-2) u) ∨ (E = "java/lang/IllegalStateException" ∧ Q (-4) u)) (fun v m1 k1 h hk => q 0 k1 m1 hk (out_q h3 h8 ⟨h.1, h.2.1, h.2.2.1, h.2.2.2.1, 0, by omega, rfl⟩)) (fun y k1 hk => Or.inl ⟨rfl, q _ k1 _ hk (ref_o (Or.inl rfl))⟩) (fun y k1 hk => Or.inr ⟨rfl, q _ k1 _ hk (ref_o (Or.inr (Or.inr rfl)))⟩)
  exact h
theorem renewed_ok {p : Int32} (h3 : 3 ≤ kd) (h8 : kd ≤ 8) (hc : c < 512) (hR : Rel c k m) (hJ : JX m cc) (q : ∀ v k1 m1, Rel (c + 1) k1 m1 → OUT m cc kd x v m1 → Q v k1) : wL_renewed S0 k p Q :=
  op_run (oj_renew (cc := cc) p hc hR hJ) (fun v m1 k1 h hk => q v k1 m1 hk (out_q h3 h8 h)) (fun y k1 hk => Or.inl ⟨rfl, q _ k1 _ hk (ref_o (Or.inl rfl))⟩) (fun y k1 hk => Or.inr ⟨rfl, q _ k1 _ hk (ref_o (Or.inr (Or.inr rfl)))⟩)
theorem recalled_ok {p : Int32} (h3 : 3 ≤ kd) (h8 : kd ≤ 8) (hc : c < 512) (hR : Rel c k m) (hJ : JX m cc) (q : ∀ v k1 m1, Rel (c + 1) k1 m1 → OUT m cc kd x v m1 → Q v k1) : wL_recalled S0 k p Q :=
  op_run (oj_recall (cc := cc) p hc hR hJ) (fun v m1 k1 h hk => q v k1 m1 hk (out_q h3 h8 h)) (fun y k1 hk => Or.inl ⟨rfl, q _ k1 _ hk (ref_o (Or.inl rfl))⟩) (fun y k1 hk => Or.inr ⟨rfl, q _ k1 _ hk (ref_o (Or.inr (Or.inr rfl)))⟩)
theorem back_ok {p : Int32} (h3 : 3 ≤ kd) (h8 : kd ≤ 8) (hc : c < 512) (hR : Rel c k m) (hJ : JX m cc) (q : ∀ v k1 m1, Rel (c + 1) k1 m1 → OUT m cc kd x v m1 → Q v k1) : wL_back S0 k p Q :=
  op_run (oj_sendBack (cc := cc) p hc hR hJ) (fun v m1 k1 h hk => q v k1 m1 hk (out_q h3 h8 h)) (fun y k1 hk => Or.inl ⟨rfl, q _ k1 _ hk (ref_o (Or.inl rfl))⟩) (fun y k1 hk => Or.inr ⟨rfl, q _ k1 _ hk (ref_o (Or.inr (Or.inr rfl)))⟩)
theorem passed_ok {p : Int32} (h9 : 9 < kd) (hc : c < 512) (hcc : cc ≤ 600) (hR : Rel c k m) (hJ : JX m cc) (q : ∀ v k1 m1, Rel (c + 1) k1 m1 → OUT m cc kd x v m1 → Q v k1) : wL_passed S0 k p Q := by
  obtain ⟨n, r, e7, e15, hn, hr, hj⟩ := hJ
  unfold wL_passed
  refine op_passJ p hc hR e7 e15 hn hr hj hcc _ _ (fun k1 v m1 hk a7 a15 aJ aG aw ad k0 k1' k8 k9 => q v k1 m1 hk (Or.inr (Or.inr (Or.inr (Or.inr (Or.inr ⟨h9, n, r, e7, a7, e15, a15, hn, hr, hj, aJ, aG, ?_, ad, ?_⟩)))))) (fun hk => ⟨rfl, q _ k _ hk (ref_o (Or.inr (Or.inl rfl)))⟩)
  · obtain ⟨w, hw, e⟩ := aw
    exact ⟨w, by omega, e⟩
  · intro a ha
    rcases ha with rfl | rfl | rfl | rfl
    · exact k0
    · exact k1'
    · exact k8
    · exact k9
theorem not_6 : ¬ ∃ a, a < 6 ∧ (6 : Int32) = nI a := fun ⟨a, ha, e⟩ => by
  have := q_inj (show 6 < 1000000000 by omega) (by omega) (show nI 6 = nI a from e)
  omega
theorem not_8 : ¬ ∃ a, a < 8 ∧ (8 : Int32) = nI a := fun ⟨a, ha, e⟩ => by
  have := q_inj (show 8 < 1000000000 by omega) (by omega) (show nI 8 = nI a from e)
  omega
theorem not_m1 {N : Nat} (hN : N < 1000) : ¬ ∃ a, a < N ∧ (-1 : Int32) = nI a := fun ⟨a, ha, e⟩ => q_m1 (n := a) (by omega) e.symm
theorem pad_1 {p p2 v : Int32} {m1 : mS} (h : PAd m cc p p2 v m1) : ∃ a, a < 6 ∧ p = nI a := by
  obtain ⟨n, h, -⟩ := h
  exact h
theorem pad_2 {p p2 v : Int32} {m1 : mS} (h : PAd m cc p p2 v m1) : ∃ a, a < 8 ∧ p2 = nI a := by
  obtain ⟨n, -, h, -⟩ := h
  exact h
theorem prq_1 {p p2 v : Int32} {m1 : mS} (h : PRq m cc p p2 v m1) : ∃ a, a < 6 ∧ p = nI a := by
  obtain ⟨n, r, a, -, -, -, -, -, h1, h2, -⟩ := h
  exact ⟨a, h1, h2⟩
theorem prq_2 {p p2 v : Int32} {m1 : mS} (h : PRq m cc p p2 v m1) : ∃ a, a < 8 ∧ p2 = nI a := by
  obtain ⟨n, r, a, h, -⟩ := h
  exact h
theorem case_add {N : Nat} (hN : N + 2 ≤ 601) (hk0 : kd = 0) (hc : c < 512) (hR : Rel c k m) (hJ : JX m cc) (q : ∀ v k1 m1, Rel (c + 1) k1 m1 → OUT m cc kd x v m1 → Q v k1) : wL_low S0 k x 13 (fun r12 k13 => ((r12 = 0 → (wL_low S0 k13 (x >>> (8 &&& 31)) 17 (fun r28 k29 => ((r28 = 0 → (N + 2 ≤ 601 ∧ (wL_added S0 k29 6 (-1) (fun r37 k38 => Q r37 k38)))) ∧ (¬ r28 = 0 → (wL_low S0 k29 (x >>> (9 &&& 31)) 2 (fun r31 k32 => (N + 2 ≤ 601 ∧ (wL_added S0 k32 6 r31 (fun r34 k35 => Q r34 k35)))))))))) ∧ (¬ r12 = 0 → (wL_low S0 k13 (x >>> (4 &&& 31)) 6 (fun r15 k16 => (wL_low S0 k16 (x >>> (8 &&& 31)) 17 (fun r17 k18 => ((r17 = 0 → (N + 2 ≤ 601 ∧ (wL_added S0 k18 r15 (-1) (fun r26 k27 => Q r26 k27)))) ∧ (¬ r17 = 0 → (wL_low S0 k18 (x >>> (9 &&& 31)) 2 (fun r20 k21 => (N + 2 ≤ 601 ∧ (wL_added S0 k21 r15 r20 (fun r23 k24 => Q r23 k24)))))))))))))) := by
  refine low_v (N := 13) _ (by omega) (by omega) ⟨fun _ => ?_, fun _ => ?_⟩
  · refine low_v (N := 17) _ (by omega) (by omega) ⟨fun _ => ⟨hN, added_ok hc hR hJ (fun v m1 h => absurd (pad_1 h) not_6) q⟩, fun _ => ?_⟩
    exact low_v (N := 2) _ (by omega) (by omega) ⟨hN, added_ok hc hR hJ (fun v m1 h => absurd (pad_1 h) not_6) q⟩
  · refine low_v (N := 6) _ (by omega) (by omega) (low_v (N := 17) _ (by omega) (by omega) ⟨fun _ => ⟨hN, added_ok hc hR hJ (fun v m1 h => absurd (pad_2 h) (not_m1 (by decide))) q⟩, fun _ => ?_⟩)
    exact low_v (N := 2) _ (by omega) (by omega) ⟨hN, added_ok hc hR hJ (fun v m1 h => Or.inr (Or.inl ⟨hk0, h⟩)) q⟩
theorem case_ask {N : Nat} (hN : N + 2 ≤ 601) (hk0 : kd = 1 ∨ kd = 2) (hc : c < 512) (hR : Rel c k m) (hJ : JX m cc) (q : ∀ v k1 m1, Rel (c + 1) k1 m1 → OUT m cc kd x v m1 → Q v k1) : wL_low S0 k x 13 (fun r40 k41 => ((r40 = 0 → (wL_low S0 k41 (x >>> (8 &&& 31)) 17 (fun r56 k57 => ((r56 = 0 → (N + 2 ≤ 601 ∧ (wL_asked S0 k57 (-1) 8 (fun r65 k66 => Q r65 k66)))) ∧ (¬ r56 = 0 → (wL_low S0 k57 (x >>> (9 &&& 31)) 2 (fun r59 k60 => (N + 2 ≤ 601 ∧ (wL_asked S0 k60 (-1) r59 (fun r62 k63 => Q r62 k63)))))))))) ∧ (¬ r40 = 0 → (wL_low S0 k41 (x >>> (4 &&& 31)) 6 (fun r43 k44 => (wL_low S0 k44 (x >>> (8 &&& 31)) 17 (fun r45 k46 => ((r45 = 0 → (N + 2 ≤ 601 ∧ (wL_asked S0 k46 r43 8 (fun r54 k55 => Q r54 k55)))) ∧ (¬ r45 = 0 → (wL_low S0 k46 (x >>> (9 &&& 31)) 2 (fun r48 k49 => (N + 2 ≤ 601 ∧ (wL_asked S0 k49 r43 r48 (fun r51 k52 => Q r51 k52)))))))))))))) := by
  refine low_v (N := 13) _ (by omega) (by omega) ⟨fun _ => ?_, fun _ => ?_⟩
  · refine low_v (N := 17) _ (by omega) (by omega) ⟨fun _ => ⟨hN, asked_ok hc hR hJ (fun v m1 h => absurd (prq_1 h) (not_m1 (by decide))) q⟩, fun _ => ?_⟩
    exact low_v (N := 2) _ (by omega) (by omega) ⟨hN, asked_ok hc hR hJ (fun v m1 h => absurd (prq_1 h) (not_m1 (by decide))) q⟩
  · refine low_v (N := 6) _ (by omega) (by omega) (low_v (N := 17) _ (by omega) (by omega) ⟨fun _ => ⟨hN, asked_ok hc hR hJ (fun v m1 h => absurd (prq_2 h) not_8) q⟩, fun _ => ?_⟩)
    exact low_v (N := 2) _ (by omega) (by omega) ⟨hN, asked_ok hc hR hJ (fun v m1 h => Or.inr (Or.inr (Or.inl ⟨hk0, h⟩))) q⟩
theorem kd_ne {a b : Nat} (ha : a < 1000) (hb : b < 1000) (h : a ≠ b) : ¬ nI a = nI b := fun e => h (q_inj (by omega) (by omega) e)
theorem act_64 {x1 x4 x5 : Int32} (hc : c < 512) (hcc : cc ≤ 600) (hkd : kd < 20) (hR : Rel c k m) (hJ : JX m cc) (q : ∀ v k1 m1, Rel (c + 1) k1 m1 → OUT m cc kd x v m1 → Q v k1) : wL_act_64 S0 Q x1 x (nI kd) x4 x5 0 k := by
  unfold wL_act_64
  have ek : ∀ a : Nat, a < 1000 → (nI kd = nI a → kd = a) := fun a ha e => q_inj (by omega) (by omega) e
  refine ⟨by omega, fun e => ?_, fun e => ?_, fun e => ?_, fun e => ?_, fun e => ?_, fun e => ?_, fun e => ?_, fun e => ?_, fun e => ?_, fun e => ?_, fun e => ?_⟩
  · exact case_add (by omega) (ek 0 (by omega) e) hc hR hJ q
  · exact case_ask (by omega) (Or.inl (ek 1 (by omega) e)) hc hR hJ q
  · exact case_ask (by omega) (Or.inr (ek 2 (by omega) e)) hc hR hJ q
  · have := ek 3 (by omega) e
    exact ⟨by omega, harmed_ok (by omega) (by omega) hR hJ q⟩
  · have := ek 4 (by omega) e
    exact ⟨by omega, looked_ok (by omega) (by omega) hc hR hJ q⟩
  · have := ek 5 (by omega) e
    exact ⟨by omega, mended_ok (by omega) (by omega) hc hR hJ q⟩
  · have := ek 6 (by omega) e
    exact ⟨by omega, renewed_ok (by omega) (by omega) hc hR hJ q⟩
  · have := ek 7 (by omega) e
    exact ⟨by omega, recalled_ok (by omega) (by omega) hc hR hJ q⟩
  · have := ek 8 (by omega) e
    exact ⟨by omega, back_ok (by omega) (by omega) hc hR hJ q⟩
  · have h9 := ek 9 (by omega) e
    obtain ⟨v, m1, -, h5, hp⟩ := oj_settle (S0 := S0) (cc := cc) hc hR hJ
    exact h5 _ (fun k1 hk => q v k1 m1 hk (Or.inr (Or.inr (Or.inr (Or.inr (Or.inl ⟨h9, hp⟩))))))
  · obtain ⟨n0, n1, n2, n3, n4, n5, n6, n7, n8, n9⟩ := e
    have h9 : 9 < kd := by
      by_cases h : 9 < kd
      · exact h
      · rcases (show kd = 0 ∨ kd = 1 ∨ kd = 2 ∨ kd = 3 ∨ kd = 4 ∨ kd = 5 ∨ kd = 6 ∨ kd = 7 ∨ kd = 8 ∨ kd = 9 by omega) with rfl | rfl | rfl | rfl | rfl | rfl | rfl | rfl | rfl | rfl
        · exact absurd rfl n0
        · exact absurd rfl n1
        · exact absurd rfl n2
        · exact absurd rfl n3
        · exact absurd rfl n4
        · exact absurd rfl n5
        · exact absurd rfl n6
        · exact absurd rfl n7
        · exact absurd rfl n8
        · exact absurd rfl n9
    refine low_v (N := 23) _ (by omega) (by omega) ⟨fun _ => ?_, fun _ => ?_⟩
    · exact low_v (N := 2) _ (by omega) (by omega) ⟨by omega, passed_ok h9 hc hcc hR hJ q⟩
    · refine low_v (N := 3) _ (by omega) (by omega) ⟨fun _ => ?_, fun _ => ?_⟩
      · exact low_v (N := 30) _ (by omega) (by omega) ⟨by omega, passed_ok h9 hc hcc hR hJ q⟩
      · exact low_v (N := 5) _ (by omega) (by omega) ⟨by omega, passed_ok h9 hc hcc hR hJ q⟩
theorem act_ok {x1 : Int32} (hc : c < 512) (hcc : cc ≤ 600) (hkd : kd < 20) (hR : Rel c k m) (hJ : JX m cc) (q : ∀ v k1 m1, Rel (c + 1) k1 m1 → OUT m cc kd x v m1 → Q v k1) : wL_act S0 k x1 x (nI kd) Q := by
  have h32 : ∀ x4, wL_act_32 S0 Q x1 x (nI kd) x4 0 k := by
    intro x4
    refine ⟨by omega, low_v (N := 9) _ (by omega) (by omega) ⟨fun _ => ?_, fun _ => ?_⟩⟩
    · exact low_v (N := 22) _ (by omega) (by omega) (act_64 hc hcc hkd hR hJ q)
    · exact low_v (N := 9) _ (by omega) (by omega) (act_64 hc hcc hkd hR hJ q)
  unfold wL_act
  refine low_v (N := 7) _ (by omega) (by omega) ⟨fun _ => ?_, fun _ => ?_⟩
  · exact low_v (N := 22) _ (by omega) (by omega) (h32 _)
  · exact low_v (N := 6) _ (by omega) (by omega) (h32 _)
end AC
