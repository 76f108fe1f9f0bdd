/-! PURE: the class' queue -/
def qSame (k k' : kS) : Prop := (∀ a, a ≠ 3 → k'.1 a = k.1 a) ∧ (∀ a, a ≠ 2 → k'.2.1 a = k.2.1 a) ∧ k'.2.2 = k.2.2
theorem ins_get {QC : List Nat} {q x : Nat} (hx : x ≤ QC.length) (j : Nat) : (QC.take x ++ q :: QC.drop x)[j]? = if j < x then QC[j]? else if j = x then some q else QC[j - 1]? := by
  have hl : (QC.take x).length = x := by rw [List.length_take]; omega
  by_cases h1 : j < x
  · rw [if_pos h1, List.getElem?_append_left (by omega), List.getElem?_take, if_pos h1]
  · rw [if_neg h1, List.getElem?_append_right (by omega), hl]
    by_cases h2 : j = x
    · rw [if_pos h2, h2, Nat.sub_self]
      rfl
    · rw [if_neg h2]
      obtain ⟨i, hi⟩ : ∃ i, j - x = i + 1 := ⟨j - x - 1, by omega⟩
      rw [hi, List.getElem?_cons_succ, List.getElem?_drop]
      congr 1
      omega
theorem put_end {k k4 k' : kS} {QC : List Nat} {q x : Nat} (hx : x ≤ QC.length) (hl : QC.length < 552) (hs : qSame k k4) (hn : k4.1 3 0 = nI QC.length) (hj : ∀ j, j < 552 → j ≠ x → k4.2.1 2 j = if j < x then QC[j]? else QC[j - 1]?) (e : k' = kset (kptr k4 2 x (some q)) 3 0 ((kptr k4 2 x (some q)).1 3 0 + 1)) : qSame k k' ∧ pQ k' (QC.take x ++ q :: QC.drop x) := by
  subst e
  refine ⟨⟨fun a ha => ?_, fun a ha => ?_, hs.2.2⟩, ?_, ?_, fun j h552 => ?_⟩
  · show (if a = 3 then _ else k4.1 a) = _
    rw [if_neg ha]; exact hs.1 a ha
  · show (if a = 2 then _ else k4.2.1 a) = _
    rw [if_neg ha]; exact hs.2.1 a ha
  · show (upd (k4.1 3) 0 (k4.1 3 0 + 1)) 0 = _
    rw [show upd (k4.1 3) 0 (k4.1 3 0 + 1) 0 = k4.1 3 0 + 1 from if_pos rfl, hn, nI_1]
    congr 1
    rw [List.length_append, List.length_cons, List.length_take, List.length_drop]
    omega
  · rw [List.length_append, List.length_cons, List.length_take, List.length_drop]
    omega
  · show va_up (k4.2.1 2) x (some q) j = _
    rw [ins_get hx]
    by_cases h2 : j = x
    · rw [h2, va_up_self, if_neg (Nat.lt_irrefl _), if_pos rfl]
    · rw [va_up_ne _ _ h2, hj j h552 h2, if_neg h2]
theorem put_loop {S0 q : Nat} {Q : kS → Prop} {k : kS} {QC : List Nat} (hl : QC.length < 552) (hA : ∀ a, a ∈ QC → k.1 31 a = nI (arr k a) ∧ arr k a < 100000) (hq : k.1 31 q = nI (arr k q) ∧ arr k q < 100000)
    (hQ : ∀ (k' : kS) (x : Nat), x ≤ QC.length → qSame k k' → pQ k' (QC.take x ++ q :: QC.drop x) → (∀ j, x ≤ j → ∀ a, QC[j]? = some a → arr k q < arr k a) → (x = 0 ∨ ∃ a, QC[x - 1]? = some a ∧ arr k a ≤ arr k q) → Q k') :
    ∀ (x : Nat) (k4 : kS), x ≤ QC.length → qSame k k4 → k4.1 3 0 = nI QC.length → (∀ j, j < 552 → j ≠ x → k4.2.1 2 j = if j < x then QC[j]? else QC[j - 1]?) → (∀ j, x ≤ j → ∀ a, QC[j]? = some a → arr k q < arr k a) → wX2_put_l29 S0 q Q (x + 1) (nI x) k4 := by
  intro x
  induction x with
  | zero =>
    intro k4 hx hs hn hj hgt
    unfold wX2_put_l29
    refine ⟨fun _ => ⟨q_in (by decide) (by decide), ?_⟩, fun e => absurd (by decide) e⟩
    rintro k8 rfl k9 rfl
    obtain ⟨h1, h2⟩ := put_end (k := k) hx hl hs hn hj rfl
    exact hQ _ 0 hx h1 h2 hgt (Or.inl rfl)
  | succ x ih =>
    intro k4 hx hs hn hj hgt
    have hxl : x < QC.length := by omega
    unfold wX2_put_l29
    refine ⟨fun e => absurd e (nI_nle (by omega) (by omega)), fun _ => ?_⟩
    rw [nI_pred]
    refine ⟨q_in (by omega) (by decide), ?_⟩
    rw [q_cl (by omega), q_cl (by omega)]
    have hgx : k4.2.1 2 x = QC[x]? := by rw [hj x (by omega) (by omega), if_pos (by omega)]
    have hx2 : QC[x]? = some QC[x] := List.getElem?_eq_getElem hxl
    refine ⟨fun e => ?_, fun o ho => ?_⟩
    · rw [hgx, hx2] at e; cases e
    · rw [hgx] at ho
      have hmem : o ∈ QC := List.mem_of_getElem? ho
      obtain ⟨a1, a2⟩ := hA o hmem
      have e31 : k4.1 31 = k.1 31 := hs.1 31 (by decide)
      rw [e31, a1, hq.1]
      refine ⟨fun hlt => ⟨q_in (by omega) (by decide), ?_⟩, fun hge => ⟨q_in (by omega) (by decide), ?_⟩⟩
      · rintro k19 rfl
        rw [pk_m1]
        have hlt' : arr k q < arr k o := (q_lt (by omega) (by omega)).mp hlt
        refine ih _ (by omega) ⟨hs.1, fun a ha => ?_, hs.2.2⟩ hn (fun j h552 hjx => ?_) (fun j hxj a ha => ?_)
        · show (if a = 2 then _ else k4.2.1 a) = _
          rw [if_neg ha]; exact hs.2.1 a ha
        · show va_up (k4.2.1 2) (x + 1) (some o) j = _
          by_cases h2 : j = x + 1
          · rw [h2, va_up_self, if_neg (by omega)]
            exact ho.symm
          · rw [va_up_ne _ _ h2, hj j h552 h2]
            by_cases h3 : j < x
            · rw [if_pos h3, if_pos (by omega)]
            · rw [if_neg h3, if_neg (by omega)]
        · by_cases h4 : j = x
          · rw [h4, ho] at ha
            cases ha
            exact hlt'
          · exact hgt j (by omega) a ha
      · rintro k21 rfl k22 rfl
        obtain ⟨h1, h2⟩ := put_end (k := k) hx hl hs hn hj rfl
        refine hQ _ (x + 1) hx h1 h2 hgt (Or.inr ⟨o, ho, ?_⟩)
        rw [q_lt (by omega) (by omega)] at hge
        omega
theorem sx_put {S0 q : Nat} {Q : kS → Prop} {k : kS} {QC : List Nat} (hp : pQ k QC) (hl : QC.length < 552) (hA : ∀ a, a ∈ QC → k.1 31 a = nI (arr k a) ∧ arr k a < 100000) (hq : k.1 31 q = nI (arr k q) ∧ arr k q < 100000)
    (hQ : ∀ (k' : kS) (x : Nat), x ≤ QC.length → qSame k k' → pQ k' (QC.take x ++ q :: QC.drop x) → (∀ j, x ≤ j → ∀ a, QC[j]? = some a → arr k q < arr k a) → (x = 0 ∨ ∃ a, QC[x - 1]? = some a ∧ arr k a ≤ arr k q) → Q k') : wX2_put S0 k q Q := by
  unfold wX2_put
  rw [hp.1]
  refine ⟨fun e => absurd e (q_nn (by omega)), fun _ => ⟨fun _ => ⟨QC.length + 1, ?_⟩, fun e => absurd ((q_lt (b := 552) (by omega) (by decide)).mpr hl) e⟩⟩
  refine put_loop hl hA hq hQ QC.length k (Nat.le_refl _) ⟨fun _ _ => rfl, fun _ _ => rfl, rfl⟩ hp.1 (fun j h552 hj => ?_) (fun j hj a ha => ?_)
  · rw [hp.2.2 j h552]
    by_cases h1 : j < QC.length
    · rw [if_pos h1]
    · rw [if_neg h1, List.getElem?_eq_none (by omega), List.getElem?_eq_none (by omega)]
  · rw [List.getElem?_eq_none (by omega)] at ha
    cases ha
/-! taking out the first -/
theorem take_loop {S0 o : Nat} {p : Int32} {Q : Option Nat → kS → Prop} {k : kS} {a0 : Nat} {QC : List Nat} (hl : QC.length < 552) (hQ : ∀ k', qSame k k' → pQ k' QC → Q (some o) k') :
    ∀ (y x : Nat) (k4 : kS), x + y = QC.length → qSame k k4 → k4.1 3 0 = nI QC.length → (∀ j, j < 552 → k4.2.1 2 j = if j < x then QC[j]? else (a0 :: QC)[j]?) → wX2_takeArrived_l55 S0 p Q o (y + 1) (nI x) k4 := by
  intro y
  induction y with
  | zero =>
    intro x k4 hxy hs hn hj
    unfold wX2_takeArrived_l55
    rw [hn]
    refine ⟨fun _ => ⟨q_in hl (by decide), ?_⟩, fun e => absurd ((q_le (by omega) (by omega)).mpr (by omega)) e⟩
    rintro k14 rfl
    rw [q_cl (by omega)]
    refine hQ _ ⟨hs.1, fun a ha => ?_, hs.2.2⟩ ⟨hn, by omega, fun j h552 => ?_⟩
    · show (if a = 2 then _ else k4.2.1 a) = _
      rw [if_neg ha]; exact hs.2.1 a ha
    · show va_up (k4.2.1 2) QC.length none j = _
      by_cases h2 : j = QC.length
      · rw [h2, va_up_self, List.getElem?_eq_none (Nat.le_refl _)]
      · rw [va_up_ne _ _ h2, hj j h552]
        by_cases h3 : j < x
        · rw [if_pos h3]
        · rw [if_neg h3, List.getElem?_eq_none (by rw [List.length_cons]; omega), List.getElem?_eq_none (by omega)]
  | succ y ih =>
    intro x k4 hxy hs hn hj
    unfold wX2_takeArrived_l55
    rw [hn]
    refine ⟨fun e => ?_, fun _ => ?_⟩
    · rw [q_le (by omega) (by omega)] at e
      omega
    · rw [nI_1]
      refine ⟨q_in (by omega) (by decide), ?_⟩
      rw [q_cl (by omega), q_cl (by omega), hj (x + 1) (by omega), if_neg (by omega), List.getElem?_cons_succ]
      have key : ∀ (v : Option Nat), QC[x]? = v → wX2_takeArrived_l55 S0 p Q o (y + 1) (nI (x + 1)) (kptr k4 2 x v) := by
        intro v hv
        refine ih (x + 1) _ (by omega) ⟨hs.1, fun a ha => ?_, hs.2.2⟩ hn (fun j h552 => ?_)
        · show (if a = 2 then _ else k4.2.1 a) = _
          rw [if_neg ha]; exact hs.2.1 a ha
        · show va_up (k4.2.1 2) x v j = _
          by_cases h2 : j = x
          · rw [h2, va_up_self, if_pos (by omega), hv]
          · rw [va_up_ne _ _ h2, hj j h552]
            by_cases h3 : j < x
            · rw [if_pos h3, if_pos (by omega)]
            · rw [if_neg h3, if_neg (by omega)]
      refine ⟨fun e => ⟨q_in (by omega) (by decide), ?_⟩, fun o16 e => ⟨q_in (by omega) (by decide), ?_⟩⟩
      · rintro k20 rfl
        exact key none e
      · rintro k22 rfl
        exact key (some o16) e
theorem sx_take_y {S0 a : Nat} {d : Nat} {Q : Option Nat → kS → Prop} {k : kS} {QC : List Nat} (hp : pQ k (a :: QC)) (hA : k.1 31 a = nI (arr k a) ∧ arr k a < 100000) (hd : d < 100000) (had : arr k a ≤ d) (hQ : ∀ k', qSame k k' → pQ k' QC → Q (some a) k') : wX2_takeArrived S0 k (nI d) Q := by
  obtain ⟨h1, h2, h3⟩ := hp
  rw [List.length_cons] at h1 h2
  unfold wX2_takeArrived
  rw [h1]
  refine ⟨fun e => ?_, fun _ => ⟨fun _ => ⟨q_in (i := 0) (by decide) (by decide), ?_⟩, fun e => ?_⟩⟩
  · rw [show (1 : Int32) = nI 1 from rfl, q_lt (by omega) (by decide)] at e
    omega
  · rw [show ((0 : Int32).toNatClampNeg) = 0 from rfl, h3 0 (by decide), List.getElem?_cons_zero]
    refine ⟨fun e => (nomatch e), fun o e => ?_⟩
    cases e
    refine ⟨fun _ => ?_, fun e => ?_⟩
    · rintro k8 rfl
      rw [nI_pred]
      refine ⟨QC.length + 1, take_loop (a0 := a) (by omega) hQ QC.length 0 _ (by omega) ⟨fun a ha => ?_, fun _ _ => rfl, rfl⟩ rfl (fun j h552 => ?_)⟩
      · show (if a = 3 then _ else k.1 a) = _
        rw [if_neg ha]
      · rw [if_neg (by omega)]
        exact h3 j h552
    · rw [hA.1, q_le (by omega) (by omega)] at e
      omega
  · rw [show (552 : Int32) = nI 552 from rfl, q_le (by omega) (by decide)] at e
    omega
theorem sx_take_0 {S0 : Nat} {d : Nat} {Q : Option Nat → kS → Prop} {k : kS} (hp : pQ k []) (hQ : Q none k) : wX2_takeArrived S0 k (nI d) Q := by
  unfold wX2_takeArrived
  rw [hp.1]
  exact ⟨fun _ => hQ, fun e => absurd (by decide) e⟩
theorem sx_take_n {S0 a : Nat} {d : Nat} {Q : Option Nat → kS → Prop} {k : kS} {QC : List Nat} (hp : pQ k (a :: QC)) (hA : k.1 31 a = nI (arr k a) ∧ arr k a < 100000) (hd : d < 100000) (had : d < arr k a) (hQ : Q none k) : wX2_takeArrived S0 k (nI d) Q := by
  obtain ⟨h1, h2, h3⟩ := hp
  unfold wX2_takeArrived
  refine ⟨fun _ => hQ, fun _ => ⟨fun _ => ⟨q_in (i := 0) (by decide) (by decide), ?_⟩, fun _ => hQ⟩⟩
  rw [show ((0 : Int32).toNatClampNeg) = 0 from rfl, h3 0 (by decide), List.getElem?_cons_zero]
  refine ⟨fun e => (nomatch e), fun o e => ?_⟩
  cases e
  refine ⟨fun e => ?_, fun _ => hQ⟩
  rw [hA.1, q_le (by omega) (by omega)] at e
  omega
