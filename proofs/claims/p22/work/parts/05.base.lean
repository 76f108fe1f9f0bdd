/-! THE HEAP AS A FUNCTION OF ADDRESSES: a picture f says what lies at an address; a method is told what f is at its start, and says what f' is at its end. -/
abbrev zD : Type := va_G × (ClassId × ClassId × ClassId × ClassId × ClassId)
def zTy (D : zD) : List (ClassId × FieldType) := [(D.2.1, .int), (D.2.2.1, .object "UnionList$Copy"), (D.2.2.2.1, .object "UnionList$Request"), (D.2.2.2.2.1, .object "UnionList$Sent")]
abbrev zF : Type := Nat → Option va_E
def zP (D : zD) (f : zF) (H : Heap) : Prop := ∀ q e, f q = some e → va_at D.1 vwCl (q, e) H
def zA (S0 : Nat) : Nat → Prop := fun q => S0 ≤ q
/-- what stands in the middle of a method: some picture of the heap, with Rep; nothing below S0 has changed since the method's start -/
def zW (D : zD) (S0 : Nat) (Rep : Nat → zF → Prop) (H0 H : Heap) (locs : List Loc) : Prop :=
  ∃ f, zP D f H ∧ (∀ q e, f q = some e → S0 ≤ q) ∧ va_S (zA S0) H0 H locs ∧ Rep H.size f
theorem zP.up {D : zD} {f : zF} {H H' : Heap} {a : Nat} {e : va_E} (hP : zP D f H) (h1 : va_at D.1 vwCl (a, e) H') (oq : ∀ q : Nat, q ≠ a → H'[q]? = H[q]?) : zP D (va_up f a (some e)) H' := by
  intro q x hx
  by_cases hq : q = a
  · subst hq
    rw [va_up_self] at hx
    cases hx
    exact h1
  · rw [va_up_ne _ _ hq] at hx
    exact (hP q x hx).kept (oq q hq)
theorem zd_up {S0 : Nat} {f : zF} {a : Nat} {e : va_E} (h : ∀ q e, f q = some e → S0 ≤ q) (ha : S0 ≤ a) : ∀ q x, va_up f a (some e) q = some x → S0 ≤ q := by
  intro q x hx
  by_cases hq : q = a
  · rw [hq]; exact ha
  · rw [va_up_ne _ _ hq] at hx
    exact h q x hx
theorem zW.mono {D : zD} {S0 : Nat} {Rep Rep' : Nat → zF → Prop} {H0 H : Heap} {locs : List Loc} (h : zW D S0 Rep H0 H locs) (hR : ∀ n f, Rep n f → Rep' n f) : zW D S0 Rep' H0 H locs := by
  obtain ⟨f, h1, h2, h3, h4⟩ := h
  exact ⟨f, h1, h2, h3, hR _ _ h4⟩
section ZR
variable {p : Program} {l : Launch} {e : Env} {R : Room} {s : State} {m : MethodId} {args : Array Value} {below : List Frame} {meth : Method} {c : Code} {H : Heap} {locs : List Loc} {cells slots : Nat} {Q : State → Prop}
variable {cc : ByteArray} {pc : Nat} {ls : Array Slot} {rest : List Value} {D : zD} {S0 : Nat} {Rep Rep' : Nat → zF → Prop} {a : Nat} {H0 : Heap}
theorem zw_get (hx : p.tables.exec = Jvm.exec) (hb : c.code = cc) {own ref C : String} {T : u_T} {N ci index : Nat} {Ts : List Cond} (hts : ∀ w ∈ Ts, w.before args s = true) (hin : ∀ w ∈ u_ws C T N, w ∈ Ts) (hown : s.vm.findClass own = some m.cls) (hK : va_K D.1 vwCl (zTy D) s) (hW : zW D S0 Rep H0 H locs) {fs : List Value} (he : ∀ n f, Rep n f → f a = some (.inr (ci, fs))) (hc : vwCl[ci]? = some (C, T, N)) (k : Nat) (hk : k < N) (hlink : (Cond.fieldLink own index ref (T k).2.1 (T k).2.2.1).before args s = true) (hsame : ∀ x, s.fieldFound? (T k).1 (T k).2.1 (T k).2.2.1 = some x → s.fieldFound? ref (T k).2.1 (T k).2.2.1 = some x) {v : Value} (hv : fs[k]? = some v) (hdg : decode cc pc = .ok (.getfield index, 3))
    (kk : W p l e R s m args below meth c H locs cells slots Q (F0 m (pc + 3) ls (v :: rest))) : W p l e R s m args below meth c H locs cells slots Q (F0 m pc ls (.ref a :: rest)) := by
  obtain ⟨f, hP, hd, hS, hR⟩ := hW
  have hf := he _ _ hR
  refine va_get (ws := [(a, .inr (ci, fs))]) hx hb hts hin hown hK (fun j q hq => ?_) 0 rfl hc k hk hlink hsame hv hdg kk
  have hj : j < 1 := (List.getElem?_eq_some_iff.mp hq).1
  rw [show j = 0 by omega] at hq
  cases hq
  exact hP a _ hf
theorem zw_put (hx : p.tables.exec = Jvm.exec) (hb : c.code = cc) {own ref C : String} {T : u_T} {N ci index : Nat} {Ts : List Cond} (hts : ∀ w ∈ Ts, w.before args s = true) (hin : ∀ w ∈ u_ws C T N, w ∈ Ts) (ty0 : Nat → FieldType) (hty : ∀ k, k < N → parseFieldDescriptor (T k).2.2.1 = some (ty0 k)) (hnm : ∀ a, a < N → ∀ b, b < N → a ≠ b → (T a).2.1 ≠ (T b).2.1) (hown : s.vm.findClass own = some m.cls) (hK : va_K D.1 vwCl (zTy D) s) (hW : zW D S0 Rep H0 H locs) {fs : List Value} (he : ∀ n f, Rep n f → f a = some (.inr (ci, fs))) (hc : vwCl[ci]? = some (C, T, N)) (k : Nat) (hk : k < N) (hlink : (Cond.fieldLink own index ref (T k).2.1 (T k).2.2.1).before args s = true) (hsame : ∀ x, s.fieldFound? (T k).1 (T k).2.1 (T k).2.2.1 = some x → s.fieldFound? ref (T k).2.1 (T k).2.2.1 = some x) (hfin : (T k).2.2.2 = false) {v : Value} (hn : narrow (ty0 k) v = v) (hfit : fits (ty0 k) v = true) (hl : k < fs.length)
    (hdg : decode cc pc = .ok (.putfield index, 3)) (hR' : ∀ n f, Rep n f → Rep' n (va_up f a (some (.inr (ci, fs.set k v)))))
    (kk : ∀ (H1 : Heap) (locs1 : List Loc), zW D S0 Rep' H0 H1 locs1 → W p l e R s m args below meth c H1 locs1 cells slots Q (F0 m (pc + 3) ls rest)) : W p l e R s m args below meth c H locs cells slots Q (F0 m pc ls (v :: .ref a :: rest)) := by
  have hap := va_apart (own := own) hts hin ty0 hty hnm hK hc
  obtain ⟨f, hP, hd, hS, hR⟩ := hW
  have hf := he _ _ hR
  obtain ⟨r, h1, cell, q1, q2, q3, q4⟩ := hP a _ hf
  have hr : r = (C, T, N) := Option.some.inj (h1.symm.trans hc)
  subst hr
  obtain ⟨hSl, hfc, kC, hkC, hkind⟩ := hK.1 ci _ hc
  obtain ⟨cf, kf, fi, fd, hi, hsl⟩ := hSl k hk
  have hlay := hts _ (hin _ (u_in_lay hk))
  unfold u_lay at hlay
  rw [if_neg (by rw [hfin]; decide)] at hlay
  have hst := (u_facts hfc hkC (u_lays hts hin hk) hi).1
  have h6 := u_store hfc hkC hkind hlay hi (hty k hk) hn hfit
  refine W.putK hx hb (f := fd) ⟨hown, hlink, ⟨_, _, _, hsame _ hi⟩, hst⟩ (by rw [q2]; exact h6) q1 q3 (by rw [hsl]; exact k2_hasslot (q4 k hk)) rfl rfl hdg fun H' e1 e2 e3 => ?_
  rw [hsl] at e1 ⊢
  refine kk H' _ ⟨_, hP.up ?_ e3, zd_up hd (hd _ _ hf), hS.put e2 e3 (hd _ _ hf), by rw [e2]; exact hR' _ _ hR⟩
  exact ⟨_, hc, t_OB.to (V := updV (vp_V fs) k v) ⟨_, e1, q2, q3, t_set q4 hap hk v⟩ (fun j _ => vp_updV_set hl v j)⟩
theorem zw_putF (hx : p.tables.exec = Jvm.exec) (hb : c.code = cc) {own ref C : String} {T : u_T} {N ci index : Nat} {Ts : List Cond} (hts : ∀ w ∈ Ts, w.before args s = true) (hin : ∀ w ∈ u_ws C T N, w ∈ Ts) (ty0 : Nat → FieldType) (hty : ∀ k, k < N → parseFieldDescriptor (T k).2.2.1 = some (ty0 k)) (hnm : ∀ a, a < N → ∀ b, b < N → a ≠ b → (T a).2.1 ≠ (T b).2.1) (hown : s.vm.findClass own = some m.cls) (hK : va_K D.1 vwCl (zTy D) s) (hW : zW D S0 Rep H0 H locs) {fs : List Value} (he : ∀ n f, Rep n f → f a = some (.inr (ci, fs))) (hc : vwCl[ci]? = some (C, T, N)) (k : Nat) (hk : k < N) (hlink : (Cond.fieldLink own index ref (T k).2.1 (T k).2.2.1).before args s = true) (hsame : ∀ x, s.fieldFound? (T k).1 (T k).2.1 (T k).2.2.1 = some x → s.fieldFound? ref (T k).2.1 (T k).2.2.1 = some x) (hfin : (T k).2.2.2 = true) (hin2 : meth.name = "<init>") (hdecl : (T k).1 = own) {v : Value} (hn : narrow (ty0 k) v = v) (hfit : fits (ty0 k) v = true) (hl : k < fs.length)
    (hdg : decode cc pc = .ok (.putfield index, 3)) (hR' : ∀ n f, Rep n f → Rep' n (va_up f a (some (.inr (ci, fs.set k v)))))
    (kk : ∀ (H1 : Heap) (locs1 : List Loc), zW D S0 Rep' H0 H1 locs1 → W p l e R s m args below meth c H1 locs1 cells slots Q (F0 m (pc + 3) ls rest)) : W p l e R s m args below meth c H locs cells slots Q (F0 m pc ls (v :: .ref a :: rest)) := by
  have hap := va_apart (own := own) hts hin ty0 hty hnm hK hc
  obtain ⟨f, hP, hd, hS, hR⟩ := hW
  have hf := he _ _ hR
  obtain ⟨r, h1, cell, q1, q2, q3, q4⟩ := hP a _ hf
  have hr : r = (C, T, N) := Option.some.inj (h1.symm.trans hc)
  subst hr
  obtain ⟨hSl, hfc, kC, hkC, hkind⟩ := hK.1 ci _ hc
  obtain ⟨cf, kf, fi, fd, hi, hsl⟩ := hSl k hk
  have hlay := hts _ (hin _ (u_in_lay hk))
  unfold u_lay at hlay
  rw [if_pos hfin] at hlay
  have hst := (u_facts hfc hkC (u_lays hts hin hk) hi).1
  have hcf : m.cls = cf := by
    obtain ⟨_, _, c', _, _, _, -, -, hf', -, -, -, hown2, -⟩ := Cond.laysFinal_spec hlay
    have e1 : c' = cf := by have := hi.symm.trans hf'; simp at this; exact this.1.symm
    rw [hdecl] at hown2
    rw [← e1]; exact Option.some.inj (hown.symm.trans hown2)
  have h6 := u_fits hfc hkC hkind (Or.inr hlay) hi (hty k hk) hn hfit
  refine W.putFinK hx hb hown hlink (hsame _ hi) hst hcf hin2 (by rw [q2]; exact h6) q1 q3 (by rw [hsl]; exact k2_hasslot (q4 k hk)) rfl rfl hdg fun H' e1 e2 e3 => ?_
  rw [hsl] at e1 ⊢
  refine kk H' _ ⟨_, hP.up ?_ e3, zd_up hd (hd _ _ hf), hS.put e2 e3 (hd _ _ hf), by rw [e2]; exact hR' _ _ hR⟩
  exact ⟨_, hc, t_OB.to (V := updV (vp_V fs) k v) ⟨_, e1, q2, q3, t_set q4 hap hk v⟩ (fun j _ => vp_updV_set hl v j)⟩
theorem zw_iald (hx : p.tables.exec = Jvm.exec) (hb : c.code = cc) (hK : va_K D.1 vwCl (zTy D) s) (hW : zW D S0 Rep H0 H locs) {n : Nat} {g : Nat → Int32} (he : ∀ k f, Rep k f → f a = some (.inl (D.2.1, n, .inl g))) {i : Int32} (hin : vp_in i n) (hdg : decode cc pc = .ok (.iaload, 1))
    (kk : W p l e R s m args below meth c H locs cells slots Q (F0 m (pc + 1) ls (.int (g i.toNatClampNeg) :: rest))) : W p l e R s m args below meth c H locs cells slots Q (F0 m pc ls (.int i :: .ref a :: rest)) := by
  obtain ⟨f, hP, hd, hS, hR⟩ := hW
  have hf := he _ _ hR
  refine va_iald (ws := [(a, .inl (D.2.1, n, .inl g))]) hx hb hK (fun j q hq => ?_) 0 0 rfl rfl hin hdg kk
  have hj : j < 1 := (List.getElem?_eq_some_iff.mp hq).1
  rw [show j = 0 by omega] at hq
  cases hq
  exact hP a _ hf
theorem zw_aldq (hx : p.tables.exec = Jvm.exec) (hb : c.code = cc) (hK : va_K D.1 vwCl (zTy D) s) (hW : zW D S0 Rep H0 H locs) (t0 : Nat) {cA : ClassId} {C : String} (ht : (zTy D)[t0]? = some (cA, .object C)) {n : Nat} {g : Nat → Option Nat} (he : ∀ k f, Rep k f → f a = some (.inl (cA, n, .inr (.inr (.inr (.inr g)))))) {i : Int32} (hin : vp_in i n) (hdg : decode cc pc = .ok (.aaload, 1))
    (kk : W p l e R s m args below meth c H locs cells slots Q (F0 m (pc + 1) ls (va_rf (g i.toNatClampNeg) :: rest))) : W p l e R s m args below meth c H locs cells slots Q (F0 m pc ls (.int i :: .ref a :: rest)) := by
  obtain ⟨f, hP, hd, hS, hR⟩ := hW
  have hf := he _ _ hR
  refine va_aldq (ws := [(a, .inl (cA, n, .inr (.inr (.inr (.inr g)))))]) hx hb hK (fun j q hq => ?_) 0 t0 rfl ht hin hdg kk
  have hj : j < 1 := (List.getElem?_eq_some_iff.mp hq).1
  rw [show j = 0 by omega] at hq
  cases hq
  exact hP a _ hf
theorem zw_alen (hx : p.tables.exec = Jvm.exec) (hb : c.code = cc) (hK : va_K D.1 vwCl (zTy D) s) (hW : zW D S0 Rep H0 H locs) (t0 : Nat) {cA : ClassId} {ty : FieldType} (ht : (zTy D)[t0]? = some (cA, ty)) {x : vp_A} (he : ∀ k f, Rep k f → f a = some (.inl (cA, x))) {v : Int32} (hv : Int32.ofNat x.1 = v) (hdg : decode cc pc = .ok (.arraylength, 1))
    (kk : W p l e R s m args below meth c H locs cells slots Q (F0 m (pc + 1) ls (.int v :: rest))) : W p l e R s m args below meth c H locs cells slots Q (F0 m pc ls (.ref a :: rest)) := by
  obtain ⟨f, hP, hd, hS, hR⟩ := hW
  have hf := he _ _ hR
  refine va_alen (ws := [(a, .inl (cA, x))]) hx hb hK (fun j q hq => ?_) 0 t0 rfl ht hv hdg kk
  have hj : j < 1 := (List.getElem?_eq_some_iff.mp hq).1
  rw [show j = 0 by omega] at hq
  cases hq
  exact hP a _ hf
theorem zw_iast (hx : p.tables.exec = Jvm.exec) (hb : c.code = cc) (hK : va_K D.1 vwCl (zTy D) s) (hW : zW D S0 Rep H0 H locs) {n : Nat} {g : Nat → Int32} (he : ∀ k f, Rep k f → f a = some (.inl (D.2.1, n, .inl g))) {i x : Int32} (hin : vp_in i n) (hdg : decode cc pc = .ok (.iastore, 1))
    (hR' : ∀ k f, Rep k f → Rep' k (va_up f a (some (.inl (D.2.1, n, .inl (upd g i.toNatClampNeg x))))))
    (kk : ∀ (H1 : Heap) (locs1 : List Loc), zW D S0 Rep' H0 H1 locs1 → W p l e R s m args below meth c H1 locs1 cells slots Q (F0 m (pc + 1) ls rest)) : W p l e R s m args below meth c H locs cells slots Q (F0 m pc ls (.int x :: .int i :: .ref a :: rest)) := by
  obtain ⟨f, hP, hd, hS, hR⟩ := hW
  have hf := he _ _ hR
  refine W.iast hx hb (hP a _ hf) ((hK.2 0 _ rfl).1 n (fun j => .int (g j))) (fun q => by cases q) (by show ¬ (i < 0 ∨ (arrV _ _ _).slots.size ≤ _); rw [arrV_size]; exact hin) rfl rfl hdg fun H1 e z oq => ?_
  refine kk H1 _ ⟨_, hP.up ?_ oq, zd_up hd (hd _ _ hf), hS.put z oq (hd _ _ hf), by rw [z]; exact hR' _ _ hR⟩
  show H1[a]? = some (vp_cell _ _)
  rw [e]
  rw [vp_cell_i, vp_cell_i, arrV_store]
  congr 2
  funext q
  by_cases hq : q = i.toNatClampNeg
  · subst hq
    simp [updV, upd]
  · simp [updV, upd, hq]
theorem zw_astq (hx : p.tables.exec = Jvm.exec) (hb : c.code = cc) (hK : va_K D.1 vwCl (zTy D) s) (hW : zW D S0 Rep H0 H locs) (t0 : Nat) {cA : ClassId} {r : vw_C} (ht : (zTy D)[t0]? = some (cA, .object r.1)) {n v ci : Nat} {vs : List Value} {g : Nat → Option Nat} (he : ∀ k f, Rep k f → f a = some (.inl (cA, n, .inr (.inr (.inr (.inr g)))))) (hv : ∀ k f, Rep k f → f v = some (.inr (ci, vs))) (hc : vwCl[ci]? = some r) {i : Int32} (hin : vp_in i n) (hdg : decode cc pc = .ok (.aastore, 1))
    (hR' : ∀ k f, Rep k f → Rep' k (va_up f a (some (.inl (cA, n, .inr (.inr (.inr (.inr (va_up g i.toNatClampNeg (some v))))))))))
    (kk : ∀ (H1 : Heap) (locs1 : List Loc), zW D S0 Rep' H0 H1 locs1 → W p l e R s m args below meth c H1 locs1 cells slots Q (F0 m (pc + 1) ls rest)) : W p l e R s m args below meth c H locs cells slots Q (F0 m pc ls (.ref v :: .int i :: .ref a :: rest)) := by
  obtain ⟨f, hP, hd, hS, hR⟩ := hW
  have hf := he _ _ hR
  have hlt : i.toNatClampNeg < n := Nat.not_le.mp fun q => hin (Or.inr q)
  have h0 : ¬ i < 0 := fun q => hin (Or.inl q)
  obtain ⟨r', hr', cellV, g1, g2, g3, -⟩ := hP v _ (hv _ _ hR)
  have hcls := (hK.1 ci r hc).2
  obtain ⟨kA, comp, k1, k2, k3, -⟩ := (hK.2 t0 _ ht).2
  have hcomp : comp = D.1.1 ci := Option.some.inj (k3.symm.trans hcls.1)
  subst hcomp
  obtain ⟨kC, hkC, -⟩ := hcls.2
  refine W.aast hx hb (hP a _ hf) (fun q h => by cases h) (fun h => by cases h) k1 k2 rfl hkC ⟨h0, by show _ < (arrV _ _ _).slots.size; rw [arrV_size]; exact hlt⟩ g1 (fun q h => by rw [g3] at h; cases h) (by rw [g2]; exact hkC) (by rw [g2]; exact va_assign hcls) rfl rfl hdg fun H1 e z oq => ?_
  refine kk H1 _ ⟨_, hP.up ?_ oq, zd_up hd (hd _ _ hf), hS.put z oq (hd _ _ hf), by rw [z]; exact hR' _ _ hR⟩
  show H1[a]? = some (vp_cell _ _)
  rw [e]
  rw [vp_cell_q, vp_cell_q, arrV_store]
  congr 2
  funext q
  by_cases hq : q = i.toNatClampNeg
  · subst hq
    simp [updV, va_up, va_rf]
  · simp [updV, va_up, hq]
theorem zw_astqN (hx : p.tables.exec = Jvm.exec) (hb : c.code = cc) (hK : va_K D.1 vwCl (zTy D) s) (hW : zW D S0 Rep H0 H locs) (t0 : Nat) {cA : ClassId} {C : String} (ht : (zTy D)[t0]? = some (cA, .object C)) {n : Nat} {g : Nat → Option Nat} (he : ∀ k f, Rep k f → f a = some (.inl (cA, n, .inr (.inr (.inr (.inr g)))))) {i : Int32} (hin : vp_in i n) (hdg : decode cc pc = .ok (.aastore, 1))
    (hR' : ∀ k f, Rep k f → Rep' k (va_up f a (some (.inl (cA, n, .inr (.inr (.inr (.inr (va_up g i.toNatClampNeg none)))))))))
    (kk : ∀ (H1 : Heap) (locs1 : List Loc), zW D S0 Rep' H0 H1 locs1 → W p l e R s m args below meth c H1 locs1 cells slots Q (F0 m (pc + 1) ls rest)) : W p l e R s m args below meth c H locs cells slots Q (F0 m pc ls (.null :: .int i :: .ref a :: rest)) := by
  obtain ⟨f, hP, hd, hS, hR⟩ := hW
  have hf := he _ _ hR
  refine va_WaastN (C := C) hx hb (hP a _ hf) ((hK.2 t0 _ ht).1 n (fun j => va_rf (g j))) (fun h => by cases h) (by show ¬ (i < 0 ∨ (arrV _ _ _).slots.size ≤ _); rw [arrV_size]; exact hin) rfl rfl hdg fun H1 e z oq => ?_
  refine kk H1 _ ⟨_, hP.up ?_ oq, zd_up hd (hd _ _ hf), hS.put z oq (hd _ _ hf), by rw [z]; exact hR' _ _ hR⟩
  show H1[a]? = some (vp_cell _ _)
  rw [e]
  rw [vp_cell_q, vp_cell_q, arrV_store]
  congr 2
  funext q
  by_cases hq : q = i.toNatClampNeg
  · subst hq
    simp [updV, va_up, va_rf]
  · simp [updV, va_up, hq]
/-- a new cell lies at the heap's end, where the picture says nothing -/
theorem zP.none {D : zD} {f : zF} {H : Heap} (hP : zP D f H) : f H.size = none := by
  cases hf : f H.size with
  | none => rfl
  | some e =>
    have h : H.size < H.size := (hP _ _ hf).lt
    omega
theorem zP.new {D : zD} {f : zF} {H H' : Heap} {e : va_E} (hP : zP D f H) (h1 : va_at D.1 vwCl (H.size, e) H') (oq : ∀ q : Nat, q < H.size → H'[q]? = H[q]?) : zP D (va_up f H.size (some e)) H' := by
  intro q x hx
  by_cases hq : q = H.size
  · subst hq
    rw [va_up_self] at hx
    cases hx
    exact h1
  · rw [va_up_ne _ _ hq] at hx
    exact (hP q x hx).kept (oq q (hP q x hx).lt)
theorem zS.new {S0 : Nat} {H H' : Heap} (hS : va_S (zA S0) H0 H locs) (z1 : H'.size = H.size + 1) (o1 : ∀ q, q < H.size → H'[q]? = H[q]?) : va_S (zA S0) H0 H' locs :=
  ⟨Nat.le_trans hS.1 (by omega), fun x h1 h2 => (o1 x (Nat.lt_of_lt_of_le h1 hS.1)).trans (hS.2.1 x h1 h2), hS.2.2⟩
theorem zw_new (hx : p.tables.exec = Jvm.exec) (hb : c.code = cc) {own C : String} {T : u_T} {N ci index : Nat} {Ts : List Cond} (hts : ∀ w ∈ Ts, w.before args s = true) (hin : ∀ w ∈ u_ws C T N, w ∈ Ts) (ty : Nat → FieldType) (hty : ∀ k, k < N → parseFieldDescriptor (T k).2.2.1 = some (ty k)) (hown : s.vm.findClass own = some m.cls) (hcl : (Cond.classLink own index C).before args s = true) (hinst : (Cond.instantiable C N).before args s = true) (hini : (Cond.initialized C).before args s = true)
    (hK : va_K D.1 vwCl (zTy D) s) (hW : zW D S0 Rep H0 H locs) (hS0 : S0 ≤ H0.size) (hc : vwCl[ci]? = some (C, T, N)) {fs : List Value} (hfs : ∀ j, j < N → defaultValue (ty j) = vp_V fs j) (hcells : cells + 1 ≤ R.cells) (hslots : slots + N ≤ R.slots) (hdg : decode cc pc = .ok (.new index, 3))
    (kk : ∀ (q : Nat) (H1 : Heap), zW D S0 (fun n f' => ∃ f, Rep q f ∧ f q = none ∧ n = q + 1 ∧ f' = va_up f q (some (.inr (ci, fs)))) H0 H1 locs → H0.size ≤ q → W p l e R s m args below meth c H1 locs (cells + 1) (slots + N) Q (F0 m (pc + 3) ls (.ref q :: rest))) : W p l e R s m args below meth c H locs cells slots Q (F0 m pc ls rest) := by
  obtain ⟨f, hP, hd, hS, hR⟩ := hW
  have hKn := hK.1 ci _ hc
  refine W.newcK hx hb hown hcl hinst hini rfl hdg hcells hslots hKn.2.1 rfl fun H1 kC hkC e1 z1 o1 => ?_
  refine kk H.size H1 ⟨_, hP.new (e := .inr (ci, fs)) ?_ o1, zd_up hd (Nat.le_trans hS0 hS.1), zS.new hS z1 o1, f, hR, hP.none, z1, rfl⟩ hS.1
  exact ⟨_, hc, (u_born ty hts hin hKn hkC e1 hty).to hfs⟩
theorem zw_newi (hx : p.tables.exec = Jvm.exec) (hb : c.code = cc) (harr : (Cond.arrayClass (newarray.typeOf .int)).before args s = true)
    (hK : va_K D.1 vwCl (zTy D) s) (hW : zW D S0 Rep H0 H locs) (hS0 : S0 ≤ H0.size) {n : Int32} {N' : Nat} (hn : ¬ n < 0) (hN : n.toNatClampNeg = N') (hbytes : N' * componentBytes .int ≤ 536870912) (hcells : cells + 1 ≤ R.cells) (hslots : slots + N' ≤ R.slots) (hdg : decode cc pc = .ok (.newarray .int, 2))
    (kk : ∀ (q : Nat) (H1 : Heap), zW D S0 (fun k f' => ∃ f, Rep q f ∧ f q = none ∧ k = q + 1 ∧ f' = va_up f q (some (.inl (D.2.1, N', .inl (fun _ => 0))))) H0 H1 locs → H0.size ≤ q → W p l e R s m args below meth c H1 locs (cells + 1) (slots + N') Q (F0 m (pc + 2) ls (.ref q :: rest))) : W p l e R s m args below meth c H locs cells slots Q (F0 m pc ls (.int n :: rest)) := by
  obtain ⟨f, hP, hd, hS, hR⟩ := hW
  refine va_newaK hx hb harr rfl hdg rfl hn hN hbytes hcells hslots rfl fun H1 cA e1 z1 o1 hAr hNm => ?_
  have hcA : cA = D.2.1 := Option.some.inj (hNm.symm.trans ((hK.2 0 _ rfl).2 : s.vm.findClass ("[" ++ (FieldType.int).toString) = some D.2.1))
  subst hcA
  exact kk H.size H1 ⟨_, hP.new (e := .inl (D.2.1, N', .inl (fun _ => 0))) e1 o1, zd_up hd (Nat.le_trans hS0 hS.1), zS.new hS z1 o1, f, hR, hP.none, z1, rfl⟩ hS.1
theorem zw_newq (hx : p.tables.exec = Jvm.exec) (hb : c.code = cc) {own C : String} {index : Nat} (hown : s.vm.findClass own = some m.cls) (hclink : (Cond.classLink own index C).before args s = true) (hover : (Cond.arrayOver (.object C)).before args s = true)
    (hK : va_K D.1 vwCl (zTy D) s) (hW : zW D S0 Rep H0 H locs) (hS0 : S0 ≤ H0.size) (t0 : Nat) {cA : ClassId} (ht : (zTy D)[t0]? = some (cA, .object C)) {n : Int32} {N' : Nat} (hn : ¬ n < 0) (hN : n.toNatClampNeg = N') (hbytes : N' * 4 ≤ 536870912) (hcells : cells + 1 ≤ R.cells) (hslots : slots + N' ≤ R.slots) (hdg : decode cc pc = .ok (.anewarray index, 3))
    (kk : ∀ (q : Nat) (H1 : Heap), zW D S0 (fun k f' => ∃ f, Rep q f ∧ f q = none ∧ k = q + 1 ∧ f' = va_up f q (some (.inl (cA, N', .inr (.inr (.inr (.inr (fun _ => none)))))))) H0 H1 locs → H0.size ≤ q → W p l e R s m args below meth c H1 locs (cells + 1) (slots + N') Q (F0 m (pc + 3) ls (.ref q :: rest))) : W p l e R s m args below meth c H locs cells slots Q (F0 m pc ls (.int n :: rest)) := by
  obtain ⟨f, hP, hd, hS, hR⟩ := hW
  subst hN
  refine W.anew hx hb hown hclink hover rfl hdg rfl hn hbytes hcells hslots fun cA' kA comp f1 f2 f3 f4 => ?_
  obtain ⟨kA2, comp2, k1, k2, k3, k4⟩ := (hK.2 t0 _ ht).2
  have hcA : cA' = cA := Option.some.inj (f1.symm.trans k4)
  subst hcA
  generalize hH1 : H.push ({ cls := cA', slots := Array.replicate n.toNatClampNeg .null, vm := .none } : Cell) = H1
  have z1 : H1.size = H.size + 1 := by rw [← hH1, Array.size_push]
  have e1 : H1[H.size]? = some (arrV cA' n.toNatClampNeg (fun _ => .null)) := by rw [← hH1, Array.getElem?_push_size, ← arrV_new]
  have o1 : ∀ q : Nat, q < H.size → H1[q]? = H[q]? := fun q hq => by rw [← hH1, Array.getElem?_push, if_neg (Nat.ne_of_lt hq)]
  exact kk H.size H1 ⟨_, hP.new (e := .inl (cA', n.toNatClampNeg, .inr (.inr (.inr (.inr (fun _ => none)))))) e1 o1, zd_up hd (Nat.le_trans hS0 hS.1), zS.new hS z1 o1, f, hR, hP.none, z1, rfl⟩ hS.1
end ZR
