/-! CALLS over the heap as a function: a method's start and end, the environment that every method needs -/
def zStr : List (Nat × String) := [(56, "home or title is out of range"), (63, "there are 20 copies"), (195, "there is no such copy"), (93, "it was harmed and was not mended since"), (102, "it is on its way"), (114, "it is not at home, or no harm is known"), (116, "house or title is out of range"), (118, "40 requests were made"), (198, "there is no such request"), (141, "it is no loan"), (163, "it is no loan, or a recall of it was sent"), (173, "days is out of range"), (179, "house or other is out of range"), (187, "house is out of range")]
def zEx : List String := ["java/lang/IllegalArgumentException", "java/lang/IllegalStateException", "java/lang/IndexOutOfBoundsException"]
def zDc : List String := ["java/lang/RuntimeException", "java/lang/Exception", "java/lang/Throwable"]
def zE (D : zD) (S0 : Nat) (U : State) : Prop := va_K D.1 vwCl (zTy D) U ∧ va_Nw (.methodLinkNest RX0 21 yX5_isHouse "UnionList") U ∧ vx_Zq Bundle.tN "UNASSIGNED_STACK" Bundle.steD (zA S0) U U.heap ∧ vx_Zq Bundle.tN "SUPPRESSED_SENTINEL" Bundle.listD (zA S0) U U.heap ∧ (∀ kt ∈ zStr, ∃ a, vk_R RX5 kt.1 kt.2 a U) ∧ (∀ x ∈ zEx, va_Nw (.castable x x) U) ∧ (∀ x ∈ zDc, va_Nw (.declares ⟨x, "<init>", "(Ljava/lang/String;)V"⟩) U) ∧ va_Nc "java/lang/IllegalStateException" "java/lang/IllegalArgumentException" U ∧ va_Nc "java/lang/IllegalStateException" "java/lang/IndexOutOfBoundsException" U
theorem zE.moved {D : zD} {S0 : Nat} {s U : State} {H : Heap} {locs : List Loc} (h : zE D S0 s) (hS : va_S (zA S0) s.heap H locs) (hU : U.heap = H) (hW : s.WarmedH U.vm) : zE D S0 U := by
  obtain ⟨h1, h2, h3, h4, h5, h6, h9, h7, h8⟩ := h
  refine ⟨va_K.moved hW.alike h1, va_Nw.warmM hW h2, ?_, ?_, fun kt hk => ?_, fun x hx => va_Nw.warmC hW (h6 x hx), fun x hx => va_Nw.warmD hW (h9 x hx), h7.moved hW.alike, h8.moved hW.alike⟩
  · rw [hU]; exact vx_Zq.moved hW.alike (h3.kept hS.2.1)
  · rw [hU]; exact vx_Zq.moved hW.alike (h4.kept hS.2.1)
  · obtain ⟨a, ha⟩ := h5 kt hk
    exact ⟨a, vk_R.warm hW ha⟩
theorem zE.same {D : zD} {S0 : Nat} {u U : State} (hv : U.vm = u.vm) (hh : U.heap = u.heap) (h : zE D S0 u) : zE D S0 U := by
  obtain ⟨h1, h2, h3, h4, h5, h6, h9, h7, h8⟩ := h
  have hal : u.vm.Alike U.vm := by rw [hv]; exact Vm.Alike.refl _
  refine ⟨va_K.moved hal h1, va_Nw.same rfl hv.symm h2, ?_, ?_, fun kt hk => ?_, fun x hx => va_Nw.same rfl hv.symm (h6 x hx), fun x hx => va_Nw.same rfl hv.symm (h9 x hx), h7.moved hal, h8.moved hal⟩
  · rw [hh]; exact vx_Zq.moved hal h3
  · rw [hh]; exact vx_Zq.moved hal h4
  · obtain ⟨a, ha⟩ := h5 kt hk
    exact ⟨a, vk_R.same hv ha⟩
def zB {S : Type} (D : zD) (S0 : Nat) (Rep : S → Nat → zF → Prop) (u : S) (t : State) : Prop := ∃ f, zP D f t.heap ∧ (∀ q e, f q = some e → S0 ≤ q) ∧ Rep u t.heap.size f
def zPc (D : zD) (S0 : Nat) (Rep : Nat → zF → Prop) (av : List Value) : Array Value → State → Prop := va_Pc av (fun U => S0 ≤ U.heap.size ∧ zE D S0 U ∧ ∃ f, zP D f U.heap ∧ (∀ q e, f q = some e → S0 ≤ q) ∧ Rep U.heap.size f)
theorem zPc_blind {D : zD} {S0 : Nat} {Rep : Nat → zF → Prop} {av : List Value} : FrameBlind (zPc D S0 Rep av) := by
  intro a U g mk h
  obtain ⟨h0, h1, h2, h3⟩ := h
  exact ⟨h0, h1, zE.same rfl rfl h2, h3⟩
/-- where a callee has thrown: the exception's class and the world -/
def zX {S : Type} (D : zD) (S0 : Nat) (Rep : S → Nat → zF → Prop) (QX : String → S → Prop) : String → State → State → Prop := vx_X (S := S) (fun _ => True) (fun E u t => QX E u ∧ zB D S0 Rep u t) (zA S0)
section ZC
variable {p : Program} {l : Launch} {e : Env} {R : Room} {s : State} {m : MethodId} {args : Array Value} {below : List Frame} {meth : Method} {c : Code} {H : Heap} {locs : List Loc} {cells slots : Nat} {Q : State → Prop}
variable {cc : ByteArray} {pc : Nat} {ls : Array Slot} {rest st0 : List Value} {D : zD} {S0 : Nat} {Rep : Nat → zF → Prop} {a : Array Value} {H0 : Heap} {mc ms : Nat}
theorem zpreS {As : List Value} (hE : zE D S0 s) (hs : S0 ≤ s.heap.size) (hW : zW D S0 Rep s.heap H locs) : PreS s H (zPc D S0 Rep As) As := by
  obtain ⟨f, hP, hd, hS, hR⟩ := hW
  refine ⟨zPc_blind, fun U hU hWm => ⟨rfl, ?_, hE.moved hS hU hWm, f, by rw [hU]; exact hP, hd, by rw [hU]; exact hR⟩⟩
  rw [hU]
  exact Nat.le_trans hs hS.1
theorem zpreV {As : List Value} {b ci : Nat} {fs : List Value} {q : vw_C} (hE : zE D S0 s) (hs : S0 ≤ s.heap.size) (hW : zW D S0 Rep s.heap H locs) (he : ∀ n f, Rep n f → f b = some (.inr (ci, fs))) (hc : vwCl[ci]? = some q) : PreV s H q.1 b (zPc D S0 Rep (.ref b :: As)) As := by
  refine ⟨zPc_blind, ?_, (zpreS (As := .ref b :: As) hE hs hW).2⟩
  obtain ⟨f, hP, hd, hS, hR⟩ := hW
  obtain ⟨r, h1, cell, q1, q2, q3, q4⟩ := hP b _ (he _ _ hR)
  have hr : r = q := Option.some.inj (h1.symm.trans hc)
  subst hr
  exact ⟨cell, q1, by rw [q3]; rfl, by rw [q2]; exact (hE.1.1 ci _ hc).2.1⟩
theorem zc_i {S : Type} {RepS : S → Nat → zF → Prop} {post : Int32 → S → Prop} (hr : va_Run p l e R s m args below meth c H locs cells slots mc ms (F0 m pc ls st0) rest (va_Qi post (zB D S0 RepS) (zA S0) a) (zA S0)) (hW : zW D S0 Rep H0 H locs)
    (kk : ∀ (r : Int32) (u : S) (H1 : Heap) (locs1 : List Loc), post r u → zW D S0 (RepS u) H0 H1 locs1 → W p l e R s m args below meth c H1 locs1 (cells + mc) (slots + ms) Q (F0 m (pc + 3) ls (.int r :: rest))) : W p l e R s m args below meth c H locs cells slots Q (F0 m pc ls st0) := by
  obtain ⟨f, hP, hd, hS, hR⟩ := hW
  refine va_calli hr hS (fun _ _ h => h) (fun _ h => h) (fun r u t H1 locs1 ht _ hp hB _ _ hS1 => ?_)
  obtain ⟨f1, h1, h2, h3⟩ := hB
  rw [ht] at h1 h3
  exact kk r u H1 locs1 hp ⟨f1, h1, h2, hS1, h3⟩
theorem zc_v {S : Type} {RepS : S → Nat → zF → Prop} {post : S → Prop} (hr : va_Run p l e R s m args below meth c H locs cells slots mc ms (F0 m pc ls st0) rest (va_Qv post (zB D S0 RepS) (zA S0) a) (zA S0)) (hW : zW D S0 Rep H0 H locs)
    (kk : ∀ (u : S) (H1 : Heap) (locs1 : List Loc), post u → zW D S0 (RepS u) H0 H1 locs1 → W p l e R s m args below meth c H1 locs1 (cells + mc) (slots + ms) Q (F0 m (pc + 3) ls rest)) : W p l e R s m args below meth c H locs cells slots Q (F0 m pc ls st0) := by
  obtain ⟨f, hP, hd, hS, hR⟩ := hW
  refine va_callv hr hS (fun _ _ h => h) (fun _ h => h) (fun u t H1 locs1 ht _ hp hB _ _ hS1 => ?_)
  obtain ⟨f1, h1, h2, h3⟩ := hB
  rw [ht] at h1 h3
  exact kk u H1 locs1 hp ⟨f1, h1, h2, hS1, h3⟩
theorem zc_q {S : Type} {RepS : S → Nat → zF → Prop} {post : Option Nat → S → Prop} (hr : va_Run p l e R s m args below meth c H locs cells slots mc ms (F0 m pc ls st0) rest (va_Qq post (zB D S0 RepS) (zA S0) a) (zA S0)) (hW : zW D S0 Rep H0 H locs)
    (kk : ∀ (r : Option Nat) (u : S) (H1 : Heap) (locs1 : List Loc), post r u → zW D S0 (RepS u) H0 H1 locs1 → W p l e R s m args below meth c H1 locs1 (cells + mc) (slots + ms) Q (F0 m (pc + 3) ls (va_rf r :: rest))) : W p l e R s m args below meth c H locs cells slots Q (F0 m pc ls st0) := by
  obtain ⟨f, hP, hd, hS, hR⟩ := hW
  refine va_callq hr hS (fun _ _ h => h) (fun _ h => h) (fun r u t H1 locs1 ht _ hp hB _ _ hS1 => ?_)
  obtain ⟨f1, h1, h2, h3⟩ := hB
  rw [ht] at h1 h3
  exact kk r u H1 locs1 hp ⟨f1, h1, h2, hS1, h3⟩
theorem zxc_i {S : Type} {RepS : S → Nat → zF → Prop} {post : Int32 → S → Prop} {QX : String → S → Prop} (hr : vx_Run p l e R s m args below meth c H locs cells slots mc ms (F0 m pc ls st0) rest (va_Qi post (zB D S0 RepS) (zA S0) a) (zX D S0 RepS QX) (zA S0)) (hW : zW D S0 Rep H0 H locs)
    (kx : ∀ (E : String) (ce : Cell) (q9 : Addr) (u : S) (H1 : Heap) (locs1 : List Loc), QX E u → zW D S0 (RepS u) H0 H1 locs1 → H1[q9]? = some ce → ce.vm = .none → s.vm.findClass E = some ce.cls → vx_W p l e R s m args below meth c H1 locs1 (cells + mc) (slots + ms) Q (F0 m pc ls rest) q9)
    (kk : ∀ (r : Int32) (u : S) (H1 : Heap) (locs1 : List Loc), post r u → zW D S0 (RepS u) H0 H1 locs1 → W p l e R s m args below meth c H1 locs1 (cells + mc) (slots + ms) Q (F0 m (pc + 3) ls (.int r :: rest))) : W p l e R s m args below meth c H locs cells slots Q (F0 m pc ls st0) := by
  obtain ⟨f, hP, hd, hS, hR⟩ := hW
  refine vx_calli hr hS (fun _ _ h => h) (fun _ h => h) (fun _ _ h => h) (fun E ce q9 u t H1 locs1 ht _ _ hB _ _ hS1 h1 h2 h3 => ?_) (fun r u t H1 locs1 ht _ hp hB _ _ hS1 => ?_)
  · obtain ⟨hq, f1, g1, g2, g3⟩ := hB
    rw [ht] at g1 g3
    exact kx E ce q9 u H1 locs1 hq ⟨f1, g1, g2, hS1, g3⟩ h1 h2 h3
  · obtain ⟨f1, h1, h2, h3⟩ := hB
    rw [ht] at h1 h3
    exact kk r u H1 locs1 hp ⟨f1, h1, h2, hS1, h3⟩
theorem zxc_v {S : Type} {RepS : S → Nat → zF → Prop} {post : S → Prop} {QX : String → S → Prop} (hr : vx_Run p l e R s m args below meth c H locs cells slots mc ms (F0 m pc ls st0) rest (va_Qv post (zB D S0 RepS) (zA S0) a) (zX D S0 RepS QX) (zA S0)) (hW : zW D S0 Rep H0 H locs)
    (kx : ∀ (E : String) (ce : Cell) (q9 : Addr) (u : S) (H1 : Heap) (locs1 : List Loc), QX E u → zW D S0 (RepS u) H0 H1 locs1 → H1[q9]? = some ce → ce.vm = .none → s.vm.findClass E = some ce.cls → vx_W p l e R s m args below meth c H1 locs1 (cells + mc) (slots + ms) Q (F0 m pc ls rest) q9)
    (kk : ∀ (u : S) (H1 : Heap) (locs1 : List Loc), post u → zW D S0 (RepS u) H0 H1 locs1 → W p l e R s m args below meth c H1 locs1 (cells + mc) (slots + ms) Q (F0 m (pc + 3) ls rest)) : W p l e R s m args below meth c H locs cells slots Q (F0 m pc ls st0) := by
  obtain ⟨f, hP, hd, hS, hR⟩ := hW
  refine vx_callv hr hS (fun _ _ h => h) (fun _ h => h) (fun _ _ h => h) (fun E ce q9 u t H1 locs1 ht _ _ hB _ _ hS1 h1 h2 h3 => ?_) (fun u t H1 locs1 ht _ hp hB _ _ hS1 => ?_)
  · obtain ⟨hq, f1, g1, g2, g3⟩ := hB
    rw [ht] at g1 g3
    exact kx E ce q9 u H1 locs1 hq ⟨f1, g1, g2, hS1, g3⟩ h1 h2 h3
  · obtain ⟨f1, h1, h2, h3⟩ := hB
    rw [ht] at h1 h3
    exact kk u H1 locs1 hp ⟨f1, h1, h2, hS1, h3⟩
/-- a call that hands back a reference or null, or throws -/
theorem zxc_q {S : Type} {RepS : S → Nat → zF → Prop} {post : Option Nat → S → Prop} {QX : String → S → Prop} (hr : vx_Run p l e R s m args below meth c H locs cells slots mc ms (F0 m pc ls st0) rest (va_Qq post (zB D S0 RepS) (zA S0) a) (zX D S0 RepS QX) (zA S0)) (hW : zW D S0 Rep H0 H locs)
    (kx : ∀ (E : String) (ce : Cell) (q9 : Addr) (u : S) (H1 : Heap) (locs1 : List Loc), QX E u → zW D S0 (RepS u) H0 H1 locs1 → H1[q9]? = some ce → ce.vm = .none → s.vm.findClass E = some ce.cls → vx_W p l e R s m args below meth c H1 locs1 (cells + mc) (slots + ms) Q (F0 m pc ls rest) q9)
    (kk : ∀ (r : Option Nat) (u : S) (H1 : Heap) (locs1 : List Loc), post r u → zW D S0 (RepS u) H0 H1 locs1 → W p l e R s m args below meth c H1 locs1 (cells + mc) (slots + ms) Q (F0 m (pc + 3) ls (va_rf r :: rest))) : W p l e R s m args below meth c H locs cells slots Q (F0 m pc ls st0) := by
  obtain ⟨f, hP, hd, hS, hR⟩ := hW
  intro T hT X
  rcases hr T hT X with ⟨v, st₀, t, T', L, h0, X', hL, e1, e2, ⟨⟨r, u, hv, hp, hb⟩, hF⟩, st⟩ | ⟨q, st₀, t, T', L, E, ce, h0, X', hL, e1, e2, ⟨u, -, ⟨hq, hb⟩, hF⟩, hce, hcv, hcl, st⟩
  · cases hv
    obtain ⟨k1, k2, k3⟩ := vx_keep h0 e1 hS (fun _ _ h => h) (fun _ h => h) hL hF
    obtain ⟨f1, g1, g2, g3⟩ := hb
    rw [← e1] at g1 g3
    obtain ⟨t2, a1, b1⟩ := kk r u T'.heap (locs ++ L) hp ⟨f1, g1, g2, k3, g3⟩ T' rfl X'
    exact ⟨t2, st t2 a1, b1⟩
  · obtain ⟨k1, k2, k3⟩ := vx_keep h0 e1 hS (fun _ _ h => h) (fun _ h => h) hL hF
    obtain ⟨f1, g1, g2, g3⟩ := hb
    rw [← e1] at g1 g3
    obtain ⟨t2, a1, b1⟩ := kx E ce q u T'.heap (locs ++ L) hq ⟨f1, g1, g2, k3, g3⟩ (by rw [e1]; exact hce) hcv hcl T' rfl X'
    exact ⟨t2, st.trans a1, b1⟩
end ZC
/-- a method without a table of handlers, that doesn't throw -/
theorem zMet {l : Launch} {y : MethodName} {ws ws' : List Cond} {rm : Room} {D : zD} {S0 : Nat} {Rep : Nat → zF → Prop} {av : List Value} {Qc : Array Value → State → Outcome → State → Prop} {mc ms : Nat} {cc : ByteArray} {maxL : Nat} {ret : Option FieldType}
    (hy : plainName y.cls = true) (hw : ws = Cond.code y cc maxL ret :: ws') (hlen : (lg_sl av).length ≤ maxL)
    (body : ∀ (p : Program) (e : Env) (s : State) (m : MethodId) (args : Array Value) (below : List Frame) (meth : Method) (c : Code) (ls : Array Slot), p.tables.exec = Jvm.exec → c.code = cc → meth.sig.returnType = ret → c.maxLocals = maxL → s.vm.findClass y.cls = some m.cls → (∀ w ∈ ws, w.before args s = true) → meth.locks = false → meth.name = y.name → S0 ≤ s.heap.size → zE D S0 s → zW D S0 Rep s.heap s.heap [] → lv_has ls maxL (lv_args 0 av) →
      W p l e rm s m args below meth c s.heap [] 0 0 (MQ below Qc args s mc ms (zA S0)) (F0 m 0 ls [])) : Met l y ws rm (zPc D S0 Rep av) Qc mc ms (zA S0) := by
  refine Met.ofW (cc := cc) (maxL := maxL) (ret := ret) hy hw ?_
  intro p e s m args below meth c s₁ B hml hv
  obtain ⟨rfl, hs, hE, f, hP, hd, hR⟩ := hv
  rw [lg_entry_eq]
  exact body p e s m _ below meth c _ B.exec B.bytes B.returns hml (findClass_of_methodNamed B.named) (atoms_spec (ws := ws) B.pre) B.notSynchronized (name_of_methodNamed B.named B.method).1 hs hE ⟨f, hP, hd, va_S.rf, hR⟩ (lv_entry av hlen)
/-- .. that may throw -/
theorem zMetX {l : Launch} {y : MethodName} {ws ws' : List Cond} {rm : Room} {D : zD} {S0 : Nat} {Rep : Nat → zF → Prop} {av : List Value} {Qc : Array Value → State → Outcome → State → Prop} {XC : String → State → State → Prop} {mc ms : Nat} {cc : ByteArray} {maxL : Nat} {ret : Option FieldType}
    (hy : plainName y.cls = true) (hw : ws = Cond.code y cc maxL ret :: ws') (hlen : (lg_sl av).length ≤ maxL)
    (body : ∀ (p : Program) (e : Env) (s : State) (m : MethodId) (args : Array Value) (below : List Frame) (meth : Method) (c : Code) (ls : Array Slot), p.tables.exec = Jvm.exec → c.code = cc → meth.sig.returnType = ret → c.maxLocals = maxL → s.vm.findClass y.cls = some m.cls → (∀ w ∈ ws, w.before args s = true) → meth.locks = false → meth.name = y.name → (∀ x ∈ c.exceptionTable.toList, False) → S0 ≤ s.heap.size → zE D S0 s → zW D S0 Rep s.heap s.heap [] → lv_has ls maxL (lv_args 0 av) →
      W p l e rm s m args below meth c s.heap [] 0 0 (vx_MQ below Qc XC args s mc ms (zA S0)) (F0 m 0 ls [])) : vx_Met l y ws rm (zPc D S0 Rep av) Qc XC mc ms (zA S0) := by
  refine vx_ofW (cc := cc) (maxL := maxL) (ret := ret) hy hw ?_
  intro p e s m args below meth c s₁ B hml ht hv
  obtain ⟨rfl, hs, hE, f, hP, hd, hR⟩ := hv
  rw [lg_entry_eq]
  exact body p e s m _ below meth c _ B.exec B.bytes B.returns hml (findClass_of_methodNamed B.named) (atoms_spec (ws := ws) B.pre) B.notSynchronized (name_of_methodNamed B.named B.method).1 ht hs hE ⟨f, hP, hd, va_S.rf, hR⟩ (lv_entry av hlen)
section ZRet
variable {p : Program} {l : Launch} {e : Env} {R : Room} {s : State} {m : MethodId} {args : Array Value} {below : List Frame} {meth : Method} {c : Code} {H : Heap} {locs : List Loc} {cells slots : Nat}
variable {cc : ByteArray} {pc : Nat} {ls : Array Slot} {D : zD} {S0 : Nat} {Rep : Nat → zF → Prop} {a : Array Value}
theorem zW.ends {S : Type} {RepS : S → Nat → zF → Prop} {u : S} (hW : zW D S0 (RepS u) s.heap H locs) : (∀ t : State, t.heap = H → zB D S0 RepS u t ∧ va_F (zA S0) s t) ∧ ∀ q ∈ locs, zA S0 q.base := by
  obtain ⟨f, hP, hd, hS, hR⟩ := hW
  exact ⟨fun t ht => ⟨⟨f, by rw [ht]; exact hP, hd, by rw [ht]; exact hR⟩, hS.F ht⟩, hS.2.2⟩
theorem z_iret {S : Type} {RepS : S → Nat → zF → Prop} {post : Int32 → S → Prop} {u : S} {v : Int32} (hx : p.tables.exec = Jvm.exec) (hb : c.code = cc) (hr : meth.sig.returnType = some .int) (hlocks : meth.locks = false) (hW : zW D S0 (RepS u) s.heap H locs) (hp : post v u) (hdg : decode cc pc = .ok (.ireturn, 1)) :
    W p l e R s m args below meth c H locs cells slots (MQ below (va_Qi post (zB D S0 RepS) (zA S0)) args s cells slots (zA S0)) (F0 m pc ls [.int v]) := by
  obtain ⟨h1, h2⟩ := hW.ends
  exact W.iret hx hb hr (fun t ht _ => ⟨⟨v, u, rfl, hp, (h1 t ht).1⟩, (h1 t ht).2⟩) h2 hdg hlocks
theorem z_zret {S : Type} {RepS : S → Nat → zF → Prop} {post : Int32 → S → Prop} {u : S} {v : Int32} (hx : p.tables.exec = Jvm.exec) (hb : c.code = cc) (hr : meth.sig.returnType = some .boolean) (hlocks : meth.locks = false) (hW : zW D S0 (RepS u) s.heap H locs) (hn : narrow .boolean (.int v) = .int v) (hp : post v u) (hdg : decode cc pc = .ok (.ireturn, 1)) :
    W p l e R s m args below meth c H locs cells slots (MQ below (va_Qi post (zB D S0 RepS) (zA S0)) args s cells slots (zA S0)) (F0 m pc ls [.int v]) := by
  obtain ⟨h1, h2⟩ := hW.ends
  exact W.zret hx hb hr hn (fun t ht _ => ⟨⟨v, u, rfl, hp, (h1 t ht).1⟩, (h1 t ht).2⟩) h2 hdg hlocks
theorem z_vret {S : Type} {RepS : S → Nat → zF → Prop} {post : S → Prop} {u : S} (hx : p.tables.exec = Jvm.exec) (hb : c.code = cc) (hr : meth.sig.returnType = none) (hlocks : meth.locks = false) (hW : zW D S0 (RepS u) s.heap H locs) (hp : post u) (hdg : decode cc pc = .ok (.return_, 1)) :
    W p l e R s m args below meth c H locs cells slots (MQ below (va_Qv post (zB D S0 RepS) (zA S0)) args s cells slots (zA S0)) (F0 m pc ls []) := by
  obtain ⟨h1, h2⟩ := hW.ends
  exact W.vret hx hb hr (fun t ht _ => ⟨⟨u, rfl, hp, (h1 t ht).1⟩, (h1 t ht).2⟩) h2 hdg hlocks
theorem z_aret {S : Type} {RepS : S → Nat → zF → Prop} {post : Option Nat → S → Prop} {u : S} {nm : String} (r : Option Nat) {v : Value} (hv : va_rf r = v) (hx : p.tables.exec = Jvm.exec) (hb : c.code = cc) (hr : meth.sig.returnType = some (.object nm)) (hlocks : meth.locks = false) (hW : zW D S0 (RepS u) s.heap H locs) (hp : post r u) (hdg : decode cc pc = .ok (.areturn, 1)) :
    W p l e R s m args below meth c H locs cells slots (MQ below (va_Qq post (zB D S0 RepS) (zA S0)) args s cells slots (zA S0)) (F0 m pc ls [v]) := by
  subst hv
  obtain ⟨h1, h2⟩ := hW.ends
  exact W.aret hx hb hr (Or.inl ⟨nm, rfl⟩) (va_rf_or r) (fun t ht _ => ⟨⟨r, u, rfl, hp, (h1 t ht).1⟩, (h1 t ht).2⟩) h2 hdg hlocks
/-- 'throw new E("text")' -/
theorem z_throw {S : Type} {RepS : S → Nat → zF → Prop} {QX : String → S → Prop} {Qc : Array Value → State → Outcome → State → Prop} {u : S} {rest : List Value} (hx : p.tables.exec = Jvm.exec) (hb : c.code = cc) (hl : l.stackTraces = false) {cls text : String} {ik is ic mc ms : Nat}
    (hown : s.vm.findClass RX5 = some m.cls) (hcls : Bundle.fit cls = true)
    (hk : (Cond.classLink RX5 ik cls).before args s = true) (hini : (Cond.initialized cls).before args s = true) (hstr : (is, text) ∈ zStr) (hat : ∀ w ∈ vx_atS RX5 ic cls ["java/lang/RuntimeException", "java/lang/Exception"], w.before args s = true)
    (hgood : ∀ w ∈ Cond.classLink RX5 ik cls :: Cond.initialized cls :: vx_atS RX5 ic cls ["java/lang/RuntimeException", "java/lang/Exception"], vx_ot w = true)
    (hE : zE D S0 s) (hW : zW D S0 (RepS u) s.heap H locs) (hmono : ∀ n n' f, RepS u n f → n ≤ n' → RepS u n' f) (hsize : ls.size = c.maxLocals)
    (d0 : decode cc pc = .ok (.new ik, 3)) (d3 : decode cc (pc + 3) = .ok (.dup, 1)) (d4 : decode cc (pc + 4) = .ok (.ldc is, 2)) (d6 : decode cc (pc + 6) = .ok (.invokespecial ic, 3)) (d9 : decode cc (pc + 9) = .ok (.athrow, 1))
    (hout : ∀ x ∈ c.exceptionTable.toList, False)
    (hRframes : 5 < R.frames) (hRlocals : (rest.map fun v => v.category).sum + 82 ≤ R.locals) (hRcells : cells + 1 ≤ R.cells) (hRslots : slots + 6 ≤ R.slots) (hlocks : meth.locks = false)
    (hp : QX cls u) (hc : cells + 1 ≤ mc) (hs : slots + 6 ≤ ms) :
    W p l e R s m args below meth c H locs cells slots (vx_MQ below Qc (zX D S0 RepS QX) args s mc ms (zA S0)) (F0 m pc ls rest) := by
  obtain ⟨f, hP, hd, hS, hR⟩ := hW
  obtain ⟨-, -, hU, hN, hT, -⟩ := hE
  obtain ⟨sa, hsa⟩ := hT _ hstr
  refine vx_throwS (names := ["java/lang/RuntimeException", "java/lang/Exception"]) hx hb hl hown hcls (by decide +kernel) hk hini hsa hat hgood hU hN hS hsize d0 d3 d4 d6 d9 (fun x h => (hout x h).elim) hRframes hRlocals hRcells hRslots hlocks (fun t hal hz hq => ?_) hS.2.2 hc hs
  refine ⟨u, trivial, ⟨hp, f, fun q e he => (hP q e he).kept (hq q (hP q e he).lt), hd, hmono _ _ _ hR hz⟩, Nat.le_trans hS.1 hz, fun q h1 h2 => ?_⟩
  rw [hq q (Nat.lt_of_lt_of_le h1 hS.1)]
  exact hS.2.1 q h1 h2
/-- a callee's exception that isn't caught here -/
theorem z_out {S : Type} {RepS : S → Nat → zF → Prop} {QX : String → S → Prop} {Qc : Array Value → State → Outcome → State → Prop} {u : S} {E : String} {ce : Cell} {q : Addr} {mc ms : Nat} {rest : List Value} (hout : ∀ x ∈ c.exceptionTable.toList, False) (hlocks : meth.locks = false) (hcell : H[q]? = some ce) (hv : ce.vm = .none) (hcl : s.vm.findClass E = some ce.cls) (hW : zW D S0 (RepS u) s.heap H locs) (hq : QX E u) (hc : cells ≤ mc) (hs : slots ≤ ms) :
    vx_W p l e R s m args below meth c H locs cells slots (vx_MQ below Qc (zX D S0 RepS QX) args s mc ms (zA S0)) (F0 m pc ls rest) q := by
  obtain ⟨f, hP, hd, hS, hR⟩ := hW
  refine vx_out (fun x h => (hout x h).elim) hlocks hcell hv hcl (fun t ht _ => ?_) hS.2.2 hc hs
  exact ⟨u, trivial, ⟨hq, f, by rw [ht]; exact hP, hd, by rw [ht]; exact hR⟩, hS.F ht⟩
end ZRet
def zBw (cls : String) : List Cond := [.castable cls cls, .declares ⟨"java/lang/RuntimeException", "<init>", "(Ljava/lang/String;)V"⟩, .declares ⟨"java/lang/Exception", "<init>", "(Ljava/lang/String;)V"⟩, .declares ⟨"java/lang/Throwable", "<init>", "(Ljava/lang/String;)V"⟩]
theorem vx_hatx {ws : List Cond} {args : Array Value} {s : State} {D : zD} {S0 ic : Nat} {cls : String} (hts : ∀ w ∈ ws, w.before args s = true) (hin : ∀ w ∈ (vx_atS RX5 ic cls ["java/lang/RuntimeException", "java/lang/Exception"]).filter goodWord, w ∈ ws) (hng : ∀ w ∈ (vx_atS RX5 ic cls ["java/lang/RuntimeException", "java/lang/Exception"]).filter (fun w => !goodWord w), w ∈ zBw cls) (hcl : cls ∈ zEx) (hE : zE D S0 s) : ∀ w ∈ vx_atS RX5 ic cls ["java/lang/RuntimeException", "java/lang/Exception"], w.before args s = true :=
  vx_hat (B := zBw cls) (fun w hw => hts w (hin w hw)) hng (vx_c (va_Nw.use rfl (hE.2.2.2.2.2.1 cls hcl)) (vx_c (va_Nw.use rfl (hE.2.2.2.2.2.2.1 _ (by decide))) (vx_c (va_Nw.use rfl (hE.2.2.2.2.2.2.1 _ (by decide))) (vx_c (va_Nw.use rfl (hE.2.2.2.2.2.2.1 _ (by decide))) vx_n))))
theorem vx_ng_a : ∀ w ∈ (vx_atS RX5 58 "java/lang/IllegalArgumentException" ["java/lang/RuntimeException", "java/lang/Exception"]).filter (fun w => !goodWord w), w ∈ zBw "java/lang/IllegalArgumentException" := by decide +kernel
theorem tab_out {x : Int32} {lo hi : Int} (h : ∀ i : Int, lo ≤ i → i ≤ hi → ¬ x.toInt = i) : x.toInt < lo ∨ hi < x.toInt := by
  by_cases h1 : x.toInt < lo
  · exact Or.inl h1
  · by_cases h2 : hi < x.toInt
    · exact Or.inr h2
    · exact absurd rfl (h x.toInt (by omega) (by omega))
theorem ti_ne {x v : Int32} {i : Int} (h : ¬ x = v) (hv : v.toInt = i) : ¬ x.toInt = i := fun e => h (Int32.toInt_inj.mp (e.trans hv.symm))
theorem nar_z {r : Int32} (h : r = 0 ∨ r = 1) : narrow .boolean (.int r) = .int r := by
  rcases h with rfl | rfl <;> rfl
