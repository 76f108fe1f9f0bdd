/-! THE START: what the Statement gives -/
theorem st_str : ∀ kt ∈ zStr, (Cond.stringRef RX5 kt.1 kt.2) ∈ lw_tbl := by decide +kernel
theorem st_exa : ∀ kt ∈ zStr, (Cond.exactly (Term.string RX5 kt.1) "java/lang/String") ∈ flatC (Jvm.Cond.and given_1 narrow_1) := by decide +kernel
theorem st_cst : ∀ x ∈ zEx, (Cond.castable x x) ∈ lw_tbl := by decide +kernel
theorem st_dcl : ∀ x ∈ zDc, (Cond.declares ⟨x, "<init>", "(Ljava/lang/String;)V"⟩) ∈ lw_tbl := by decide +kernel
theorem st_ovr : ∀ x ∈ zOv, (Cond.arrayOver (.object x)) ∈ lw_tbl := by decide +kernel
theorem ov_of {x : String} {args : Array Value} {U : State} (h : (Cond.arrayOver (.object x)).before args U = true) : va_Nw (.arrayOver (.object x)) U := by
  unfold va_Nw
  simp only [Cond.before, Cond.holds, Cond.value] at h ⊢
  exact h
theorem ka_arr {s : State} {args : Array Value} {ty : FieldType} (h : (Cond.arrayClass ty).before args s = true) : ∃ cA, ArrOfT s cA ty ∧ s.vm.findClass ("[" ++ ty.toString) = some cA := by
  obtain ⟨c, k, comp, h1, h2, h3⟩ := Cond.arrayClass_spec h
  exact ⟨c, fun n z => ⟨fun k h => (by cases h), k, h2, comp, h3⟩, h1⟩
theorem ka_ovr {s : State} {x : String} (h : va_Nw (.arrayOver (.object x)) s) : ∃ cA, ArrOfT s cA (.object x) ∧ va_RA s cA (.object x) := by
  obtain ⟨comp, c, k, h1, h2, h3, h4, h5⟩ := Cond.arrayOver_spec (n := x) (o := none) (idx := []) (args := #[]) (first := s) (s := s) h
  exact ⟨c, fun n z => ⟨fun k h => (by cases h), k, h3, comp, h4⟩, k, comp, h3, h4, h1, h5⟩
def pick7 {α : Type} (a0 a1 a2 a3 a4 a5 a6 : α) : Nat → α
  | 0 => a0
  | 1 => a1
  | 2 => a2
  | 3 => a3
  | 4 => a4
  | 5 => a5
  | _ => a6
theorem zE2_of {s : State} {b : Addr} (hts : ∀ w ∈ lw_tbl, w.before #[Value.ref b] s = true) (hg : (Jvm.Cond.and given_1 narrow_1).before #[Value.ref b] s = true) : ∃ D : zD, zE2 D s.heap.size s := by
  have hfl := flat_of_before _ hg
  obtain ⟨c0, i0, k0⟩ := u_known (C := RX0) (T := TX0) (N := 3) hts li_wsX00 (hts (.instantiable RX0 3) (by decide +kernel))
  obtain ⟨c1, i1, k1⟩ := u_known (C := RX1) (T := TX1) (N := 8) hts li_wsX10 (hts (.instantiable RX1 8) (by decide +kernel))
  obtain ⟨c2, i2, k2⟩ := u_known (C := RX2) (T := TX2) (N := 2) hts li_wsX20 (hts (.instantiable RX2 2) (by decide +kernel))
  obtain ⟨c3, i3, k3⟩ := u_known (C := RX3) (T := TX3) (N := 7) hts li_wsX30 (hts (.instantiable RX3 7) (by decide +kernel))
  obtain ⟨c4, i4, k4⟩ := u_known (C := RX4) (T := TX4) (N := 4) hts li_wsX40 (hts (.instantiable RX4 4) (by decide +kernel))
  obtain ⟨c5, i5, k5⟩ := u_known (C := RX5) (T := TX5) (N := 7) hts li_wsX50 (hts (.instantiable RX5 7) (by decide +kernel))
  have hov : ∀ x ∈ zOv, va_Nw (.arrayOver (.object x)) s := fun x hx => ov_of (hts _ (st_ovr x hx))
  obtain ⟨aI, hI1, hI2⟩ := ka_arr (hts (.arrayClass .int) (by decide +kernel))
  obtain ⟨aC, hC1, hC2⟩ := ka_ovr (hov "UnionList$Copy" (by decide))
  obtain ⟨aR, hR1, hR2⟩ := ka_ovr (hov "UnionList$Request" (by decide))
  obtain ⟨aS, hS1, hS2⟩ := ka_ovr (hov "UnionList$Sent" (by decide))
  refine ⟨((pick7 c0 c1 c2 c3 c4 c5 c5, pick7 i0 i1 i2 i3 i4 i5 i5), aI, aC, aR, aS, aI), ⟨⟨fun ci q hq => ?_, fun t q hq => ?_⟩, va_Nw.of rfl (hts _ (by decide +kernel)), vx_Zqof (hts _ (by decide +kernel)) (hts _ (by decide +kernel)) (hfl _ (by decide +kernel)) (fun a h1 h2 => Nat.not_le.mpr h1 h2), vx_Zqof (hts _ (by decide +kernel)) (hts _ (by decide +kernel)) (hfl _ (by decide +kernel)) (fun a h1 h2 => Nat.not_le.mpr h1 h2), fun kt hk => ?_, fun x hx => va_Nw.of rfl (hts _ (st_cst x hx)), fun x hx => va_Nw.of rfl (hts _ (st_dcl x hx)), va_Nc.of (hfl _ (by decide +kernel)), va_Nc.of (hfl _ (by decide +kernel))⟩, hov⟩
  · rcases ci with _ | _ | _ | _ | _ | _ | ci
    · cases hq; exact k0
    · cases hq; exact k1
    · cases hq; exact k2
    · cases hq; exact k3
    · cases hq; exact k4
    · cases hq; exact k5
    · cases hq
  · rcases t with _ | _ | _ | _ | t
    · cases hq; exact ⟨hI1, hI2⟩
    · cases hq; exact ⟨hC1, hC2⟩
    · cases hq; exact ⟨hR1, hR2⟩
    · cases hq; exact ⟨hS1, hS2⟩
    · cases hq
  · obtain ⟨a, c, cell, k, h1, -⟩ := Cond.exactly_spec (hfl _ (st_exa kt hk))
    exact ⟨a, vk_R.of (hts _ (st_str kt hk)) h1⟩
/-- YOUR PART: from the entry, for every script of at most 260 ints, the law comes to its end with true -/
theorem whole_start {p : Program} {e : Env} {s : State} {m : MethodId} {below : List Frame} {meth : Method} {c : Code} (l : Launch) (hflags : l.flags = flags0) {b L : Nat} {xs : Nat → Int32} (hL : L ≤ 260) (C0 : lw_At p s m meth c b L xs) : W p l e room_1 s m #[Value.ref b] below meth c s.heap [] 0 0 (lw_Z below #[Value.ref b] s) (entryFrame m ([Value.ref b] : List Value).toArray 12) := by
  obtain ⟨hx, hb, hr, hml, hown, hts, hX, hbl, hlocks, hg⟩ := C0
  obtain ⟨D, hE⟩ := zE2_of hts hg
  have hlt : l.stackTraces = false := by
    unfold Launch.stackTraces
    rw [hflags]
    decide
  exact law_start l hlt hL hx hb hr hml hown (fun w hw => hts w (li_law w hw)) hX hbl hlocks rfl hE (g_eq D s.heap.size)
