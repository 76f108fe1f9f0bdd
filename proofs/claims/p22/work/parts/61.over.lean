/-! THE START: a class of arrays stands, also for a callee -/
def zOv : List String := ["UnionList$Copy", "UnionList$Request", "UnionList$Sent"]
theorem ov_alike {u U : State} (hal : u.vm.Alike U.vm) {x : String} (h : va_Nw (.arrayOver (.object x)) u) : va_Nw (.arrayOver (.object x)) U := by
  obtain ⟨comp, c, k, h1, h2, h3, h4, h5⟩ := Cond.arrayOver_spec (n := x) (o := none) (idx := []) (args := #[]) (first := u) (s := u) h
  obtain ⟨k', hk', he⟩ := hal.2.2 _ _ h3
  have hf : ∀ n, U.vm.findClass n = u.vm.findClass n := fun n => hal.findClass n none
  have hkind : k'.kind = k.kind := by rw [he]
  obtain ⟨hlt, hp, hn⟩ := Array.findIdx?_eq_some_iff_getElem.mp h2
  have hix : (U.vm.classes.findIdx? fun x => match x.kind with | .array component _ => component == comp | _ => false) = some c := by
    rw [Array.findIdx?_eq_some_iff_getElem]
    have hlt' : c < U.vm.classes.size := (Array.getElem?_eq_some_iff.mp hk').1
    have e1 : U.vm.classes[c] = k' := (Array.getElem?_eq_some_iff.mp hk').2
    refine ⟨hlt', ?_, fun j hj => ?_⟩
    · rw [e1, hkind, h4]
      simp
    · have hju : j < u.vm.classes.size := by omega
      obtain ⟨kj, hkj, hej⟩ := hal.2.2 j _ (Array.getElem?_eq_getElem hju)
      have e2 : U.vm.classes[j] = kj := (Array.getElem?_eq_some_iff.mp hkj).2
      have hkk : kj.kind = u.vm.classes[j].kind := by rw [hej]
      have := hn j hj
      rw [e2, hkk]
      exact this
  show (Cond.arrayOver (.object x)).before #[] U = true
  simp only [Cond.before, Cond.holds, Cond.value, hf, h1, Option.bind_some, h5]
  generalize hF : Array.findIdx? _ U.vm.classes = w
  have hw : w = some c := hF.symm.trans hix
  subst hw
  rw [Option.bind_some, hk', Option.map_some, hkind, h4]
  simp
def zE2 (D : zD) (S0 : Nat) (U : State) : Prop := zE D S0 U ∧ ∀ x ∈ zOv, va_Nw (.arrayOver (.object x)) U
theorem zE2.moved {D : zD} {S0 : Nat} {s U : State} {H : Heap} {locs : List Loc} (h : zE2 D S0 s) (hS : va_S (zA S0) s.heap H locs) (hU : U.heap = H) (hW : s.WarmedH U.vm) : zE2 D S0 U := ⟨h.1.moved hS hU hW, fun x hx => ov_alike hW.alike (h.2 x hx)⟩
theorem zE2.same {D : zD} {S0 : Nat} {u U : State} (hv : U.vm = u.vm) (hh : U.heap = u.heap) (h : zE2 D S0 u) : zE2 D S0 U := ⟨h.1.same hv hh, fun x hx => ov_alike (by rw [hv]; exact Vm.Alike.refl _) (h.2 x hx)⟩
def zPc2 (D : zD) (S0 : Nat) (Rep : Nat → zF → Prop) (av : List Value) : Array Value → State → Prop := va_Pc av (fun U => S0 ≤ U.heap.size ∧ zE2 D S0 U ∧ ∃ f, zP D f U.heap ∧ (∀ q e, f q = some e → S0 ≤ q) ∧ Rep U.heap.size f)
theorem zPc2_blind {D : zD} {S0 : Nat} {Rep : Nat → zF → Prop} {av : List Value} : FrameBlind (zPc2 D S0 Rep av) := by
  intro a U g mk h
  obtain ⟨h0, h1, h2, h3⟩ := h
  exact ⟨h0, h1, zE2.same rfl rfl h2, h3⟩
theorem zpreS2 {s : State} {H : Heap} {locs : List Loc} {D : zD} {S0 : Nat} {Rep : Nat → zF → Prop} {As : List Value} (hE : zE2 D S0 s) (hs : S0 ≤ s.heap.size) (hW : zW D S0 Rep s.heap H locs) : PreS s H (zPc2 D S0 Rep As) As := by
  obtain ⟨f, hP, hd, hS, hR⟩ := hW
  refine ⟨zPc2_blind, fun U hU hWm => ⟨rfl, ?_, hE.moved hS hU hWm, f, by rw [hU]; exact hP, hd, by rw [hU]; exact hR⟩⟩
  rw [hU]
  exact Nat.le_trans hs hS.1
theorem zMet2 {l : Launch} {y : MethodName} {ws ws' : List Cond} {rm : Room} {D : zD} {S0 : Nat} {Rep : Nat → zF → Prop} {av : List Value} {Qc : Array Value → State → Outcome → State → Prop} {mc ms : Nat} {cc : ByteArray} {maxL : Nat} {ret : Option FieldType}
    (hy : plainName y.cls = true) (hw : ws = Cond.code y cc maxL ret :: ws') (hlen : (lg_sl av).length ≤ maxL)
    (body : ∀ (p : Program) (e : Env) (s : State) (m : MethodId) (args : Array Value) (below : List Frame) (meth : Method) (c : Code) (ls : Array Slot), p.tables.exec = Jvm.exec → c.code = cc → meth.sig.returnType = ret → c.maxLocals = maxL → s.vm.findClass y.cls = some m.cls → (∀ w ∈ ws, w.before args s = true) → meth.locks = false → meth.name = y.name → S0 ≤ s.heap.size → zE2 D S0 s → zW D S0 Rep s.heap s.heap [] → lv_has ls maxL (lv_args 0 av) →
      W p l e rm s m args below meth c s.heap [] 0 0 (MQ below Qc args s mc ms (zA S0)) (F0 m 0 ls [])) : Met l y ws rm (zPc2 D S0 Rep av) Qc mc ms (zA S0) := by
  refine Met.ofW (cc := cc) (maxL := maxL) (ret := ret) hy hw ?_
  intro p e s m args below meth c s₁ B hml hv
  obtain ⟨rfl, hs, hE, f, hP, hd, hR⟩ := hv
  rw [lg_entry_eq]
  exact body p e s m _ below meth c _ B.exec B.bytes B.returns hml (findClass_of_methodNamed B.named) (atoms_spec (ws := ws) B.pre) B.notSynchronized (name_of_methodNamed B.named B.method).1 hs hE ⟨f, hP, hd, va_S.rf, hR⟩ (lv_entry av hlen)
theorem ov_use {x : String} {args : Array Value} {U : State} (h : va_Nw (.arrayOver (.object x)) U) : (Cond.arrayOver (.object x)).before args U = true := by
  have h1 := h
  unfold va_Nw at h1
  simp only [Cond.before, Cond.holds, Cond.value] at h1 ⊢
  exact h1
