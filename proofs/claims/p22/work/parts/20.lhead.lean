/-! THE LAW'S METHODS: what they stand on -/
/-- a method with handlers, that doesn't throw -/
theorem zMetH {l : Launch} {y : MethodName} {ws ws' : List Cond} {rm : Room} {D : zD} {S0 : Nat} {Rep : Nat → zF → Prop} {av : List Value} {Qc : Array Value → State → Outcome → State → Prop} {mc ms : Nat} {cc : ByteArray} {maxL : Nat} {ret : Option FieldType} {hh : List (Nat × Nat × Nat × Nat)}
    (hy : plainName y.cls = true) (hw : ws = Cond.codeWith y cc maxL ret hh :: ws') (hlen : (lg_sl av).length ≤ maxL)
    (body : ∀ (p : Program) (e : Env) (s : State) (m : MethodId) (args : Array Value) (below : List Frame) (meth : Method) (c : Code) (ls : Array Slot), p.tables.exec = Jvm.exec → c.code = cc → meth.sig.returnType = ret → c.maxLocals = maxL → s.vm.findClass y.cls = some m.cls → (∀ w ∈ ws, w.before args s = true) → meth.locks = false → c.exceptionTable.toList = tableOf hh → S0 ≤ s.heap.size → zE D S0 s → zW D S0 Rep s.heap s.heap [] → lv_has ls maxL (lv_args 0 av) →
      W p l e rm s m args below meth c s.heap [] 0 0 (MQ below Qc args s mc ms (zA S0)) (F0 m 0 ls [])) : Met l y ws rm (zPc D S0 Rep av) Qc mc ms (zA S0) := by
  refine va_MetW (cc := cc) (maxL := maxL) (ret := ret) hy hw ?_
  intro p e s m args below meth c s₁ B hml hv
  obtain ⟨rfl, hs, hE, f, hP, hd, hR⟩ := hv
  rw [lg_entry_eq]
  have hts := atoms_spec (ws := ws) B.pre
  exact body p e s m _ below meth c _ B.exec B.bytes B.returns hml (findClass_of_methodNamed B.named) hts B.notSynchronized (vx_table (x := y) B (hts _ (by rw [hw]; exact List.mem_cons_self))) hs hE ⟨f, hP, hd, va_S.rf, hR⟩ (lv_entry av hlen)

/-- the same start, with the law's script b below S0 -/
def zPcX (D : zD) (S0 : Nat) (Rep : Nat → zF → Prop) (b L : Nat) (xs : Nat → Int32) (av : List Value) : Array Value → State → Prop := va_Pc av (fun U => S0 ≤ U.heap.size ∧ zE D S0 U ∧ va_X b L xs U U.heap ∧ ∃ f, zP D f U.heap ∧ (∀ q e, f q = some e → S0 ≤ q) ∧ Rep U.heap.size f)
theorem zX_same {b L : Nat} {xs : Nat → Int32} {u U : State} (hv : U.vm = u.vm) (hh : U.heap = u.heap) (h : va_X b L xs u u.heap) : va_X b L xs U U.heap := by
  rw [hh]
  exact va_X.moved (by rw [hv]; exact Vm.Alike.refl _) h
theorem zPcX_blind {D : zD} {S0 : Nat} {Rep : Nat → zF → Prop} {b L : Nat} {xs : Nat → Int32} {av : List Value} : FrameBlind (zPcX D S0 Rep b L xs av) := by
  intro a U g mk h
  obtain ⟨h0, h1, h2, h3, h4⟩ := h
  exact ⟨h0, h1, zE.same rfl rfl h2, zX_same rfl rfl h3, h4⟩
section ZX
variable {p : Program} {l : Launch} {e : Env} {R : Room} {s : State} {m : MethodId} {args : Array Value} {below : List Frame} {meth : Method} {c : Code} {H : Heap} {locs : List Loc} {cells slots : Nat} {Q : State → Prop}
variable {cc : ByteArray} {pc : Nat} {ls : Array Slot} {rest st0 : List Value} {D : zD} {S0 : Nat} {Rep : Nat → zF → Prop} {a : Array Value} {b L : Nat} {xs : Nat → Int32}
theorem zpreSX {As : List Value} (hE : zE D S0 s) (hs : S0 ≤ s.heap.size) (hX : va_X b L xs s s.heap) (hbl : b < s.heap.size) (hbS : b < S0) (hW : zW D S0 Rep s.heap H locs) : PreS s H (zPcX D S0 Rep b L xs As) As := by
  obtain ⟨f, hP, hd, hS, hR⟩ := hW
  refine ⟨zPcX_blind, fun U hU hWm => ⟨rfl, ?_, hE.moved hS hU hWm, ?_, f, by rw [hU]; exact hP, hd, by rw [hU]; exact hR⟩⟩
  · rw [hU]
    exact Nat.le_trans hs hS.1
  · rw [hU]
    exact (hX.moved hWm.alike).kept (hS.2.1 b hbl (Nat.not_le.mpr hbS))
theorem zw_sld2 (hx : p.tables.exec = Jvm.exec) (hb : c.code = cc) (hX : va_X b L xs s s.heap) (hbl : b < s.heap.size) (hbS : b < S0) (hW : zW D S0 Rep s.heap H locs) {i : Int32} (hin : vp_in i L) (hdg : decode cc pc = .ok (.iaload, 1))
    (kk : W p l e R s m args below meth c H locs cells slots Q (F0 m (pc + 1) ls (.int (xs i.toNatClampNeg) :: rest))) : W p l e R s m args below meth c H locs cells slots Q (F0 m pc ls (.int i :: .ref b :: rest)) := by
  obtain ⟨f, -, -, hS, -⟩ := hW
  exact va_sld hx hb hX hbl (A := zA S0) (Nat.not_le.mpr hbS) hS hin hdg kk
theorem zw_slen2 (hx : p.tables.exec = Jvm.exec) (hb : c.code = cc) (hX : va_X b L xs s s.heap) (hbl : b < s.heap.size) (hbS : b < S0) (hW : zW D S0 Rep s.heap H locs) (hdg : decode cc pc = .ok (.arraylength, 1))
    (kk : W p l e R s m args below meth c H locs cells slots Q (F0 m (pc + 1) ls (.int (Int32.ofNat L) :: rest))) : W p l e R s m args below meth c H locs cells slots Q (F0 m pc ls (.ref b :: rest)) := by
  obtain ⟨f, -, -, hS, -⟩ := hW
  exact va_slen hx hb hX hbl (A := zA S0) (Nat.not_le.mpr hbS) hS hdg kk
theorem z_aretA {S : Type} {RepS : S → Nat → zF → Prop} {post : Option Nat → S → Prop} {u : S} {q : Nat} (hx : p.tables.exec = Jvm.exec) (hb : c.code = cc) (hr : meth.sig.returnType = some (.array .int)) (hlocks : meth.locks = false) (hW : zW D S0 (RepS u) s.heap H locs) (hp : post (some q) u) (hdg : decode cc pc = .ok (.areturn, 1)) :
    W p l e R s m args below meth c H locs cells slots (MQ below (va_Qq post (zB D S0 RepS) (zA S0)) args s cells slots (zA S0)) (F0 m pc ls [.ref q]) := by
  obtain ⟨h1, h2⟩ := hW.ends
  exact W.aret hx hb hr (Or.inr ⟨_, rfl⟩) (Or.inr ⟨q, rfl⟩) (fun t ht _ => ⟨⟨some q, u, rfl, hp, (h1 t ht).1⟩, (h1 t ht).2⟩) h2 hdg hlocks
end ZX
theorem zMetS {l : Launch} {y : MethodName} {ws ws' : List Cond} {rm : Room} {D : zD} {S0 : Nat} {Rep : Nat → zF → Prop} {b L : Nat} {xs : Nat → Int32} {av : List Value} {Qc : Array Value → State → Outcome → State → Prop} {mc ms : Nat} {cc : ByteArray} {maxL : Nat} {ret : Option FieldType}
    (hy : plainName y.cls = true) (hw : ws = Cond.code y cc maxL ret :: ws') (hlen : (lg_sl av).length ≤ maxL)
    (body : ∀ (p : Program) (e : Env) (s : State) (m : MethodId) (args : Array Value) (below : List Frame) (meth : Method) (c : Code) (ls : Array Slot), p.tables.exec = Jvm.exec → c.code = cc → meth.sig.returnType = ret → c.maxLocals = maxL → s.vm.findClass y.cls = some m.cls → (∀ w ∈ ws, w.before args s = true) → meth.locks = false → S0 ≤ s.heap.size → zE D S0 s → va_X b L xs s s.heap → zW D S0 Rep s.heap s.heap [] → lv_has ls maxL (lv_args 0 av) →
      W p l e rm s m args below meth c s.heap [] 0 0 (MQ below Qc args s mc ms (zA S0)) (F0 m 0 ls [])) : Met l y ws rm (zPcX D S0 Rep b L xs av) Qc mc ms (zA S0) := by
  refine Met.ofW (cc := cc) (maxL := maxL) (ret := ret) hy hw ?_
  intro p e s m args below meth c s₁ B hml hv
  obtain ⟨rfl, hs, hE, hX, f, hP, hd, hR⟩ := hv
  rw [lg_entry_eq]
  exact body p e s m _ below meth c _ B.exec B.bytes B.returns hml (findClass_of_methodNamed B.named) (atoms_spec (ws := ws) B.pre) B.notSynchronized hs hE hX ⟨f, hP, hd, va_S.rf, hR⟩ (lv_entry av hlen)
section GX
variable {D : zD} {S0 : Nat} {g : zF} {k0 k : kS}
theorem gA_ne {a q n : Nat} {f : Nat → Int32} (h : gA D S0 g a n f) (hq : g q = none) : a ≠ q := by
  intro e
  have h1 := h.2
  rw [e, hq] at h1
  cases h1
theorem gU_gU {q n : Nat} {f r : Nat → Int32} : gU D (gU D g q n f) q n r = gU D g q n r := gU_up
theorem gPU {q N : Nat} {r : Nat → Int32} {i : Nat} {v : Int32} (h9 : S0 + 9 ≤ q) (n : Nat) (f : zF) (h : xR D S0 (gU D g q N r) k0 k n f) : xR D S0 (gU D g q N (upd r i v)) k0 k n (va_up f q (some (.inl (D.2.1, N, .inl (upd r i v))))) := by
  have h1 := gP (i := i) (v := v) (gU_self h9) n f h
  rw [gU_gU] at h1
  exact h1
end GX

