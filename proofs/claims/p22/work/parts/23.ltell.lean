def wL_tell_165 (S0 : Nat) (Q : (Nat → Int32) → kS → Prop) (K : Int32 → (Nat → Int32) → (Nat → Int32) → (Nat → Int32) → Nat → kS → Prop) : Nat → Int32 → Int32 → (Nat → Int32) → (Nat → Int32) → (Nat → Int32) → Nat → kS → Prop
  | 0, _, _, _, _, _, _, _ => False
  | f + 1, x4, x5, f1_, f2_, f3_, n, k => (n ≤ 200 ∧ (((6 : Int32) ≤ x5 → (K (x4 + 1) f1_ f2_ f3_ n k)) ∧ (¬ (6 : Int32) ≤ x5 → (vp_in (5 + (x4 - x4 / 3 * 3)) 64 ∧ (n + 1 ≤ 200 ∧ (wX5_owes S0 k x4 x5 (fun r20 k21 => (vp_in (5 + (x4 - x4 / 3 * 3)) 64 ∧ ∀ f23 : Nat → Int32, f23 = upd f3_ ((5 + (x4 - x4 / 3 * 3)).toNatClampNeg) ((101 * (f3_ ((5 + (x4 - x4 / 3 * 3)).toNatClampNeg))) + r20) → (wL_tell_165 S0 Q K f x4 (x5 + 1) f1_ f2_ f23 (n + 1) k21))) (fun _ _ => False)))))))
set_option maxHeartbeats 40000000 in
set_option maxRecDepth 100000 in
theorem tL_tell_165 (l : Launch) (hlt : l.stackTraces = false) (D : zD) (S0 : Nat) (g : zF) (c1 : Nat) (c2 : Nat) (q : Nat) (hq9 : S0 + 9 ≤ q) (hgq : g q = none) {p : Program} {e : Env} {s : State} {m : MethodId} {args : Array Value} {below : List Frame} {meth : Method} {c : Code} (hx : p.tables.exec = Jvm.exec) (hb : c.code = cL_tell) (hr : meth.sig.returnType = (some (.array .int))) (hml : c.maxLocals = 6) (hown : s.vm.findClass yL_tell.cls = some m.cls) (hts : ∀ w ∈ wsL_tell, w.before args s = true) (hlocks : meth.locks = false) (hs : S0 ≤ s.heap.size) (hE : zE D S0 s) (Q : (Nat → Int32) → kS → Prop) (K : Int32 → (Nat → Int32) → (Nat → Int32) → (Nat → Int32) → Nat → kS → Prop) (hK : ∀ (x4 : Int32) (f1_ : Nat → Int32) (f2_ : Nat → Int32) (f3_ : Nat → Int32) (n : Nat) (k : kS) (H : Heap) (locs : List Loc) (ls : Array Slot), K x4 f1_ f2_ f3_ n k → gA D S0 g c1 41 f1_ → gA D S0 g c2 41 f2_ → zW D S0 (xR D S0 (gU D g q 64 f3_) k k) s.heap H locs → lv_has ls 6 [(0, .ref S0), (1, .ref c1), (2, .ref c2), (3, .ref q), (4, .int x4)] → W p l e { frames := 9, cells := 200, slots := 8 * 200, locals := 156 } s m args below meth c H locs n (8 * n) (MQ below (va_Qq (fun r (u : kS × Nat × (Nat → Int32)) => Q u.2.2 u.1 ∧ r = some u.2.1 ∧ g u.2.1 = none ∧ S0 + 9 ≤ u.2.1) (zB D S0 (fun u => xR D S0 (gU D g u.2.1 64 u.2.2) u.1 u.1)) (zA S0)) args s 200 (8 * 200) (zA S0)) (F0 m 140 ls [])) : ∀ f : Nat, ∀ (x4 : Int32) (x5 : Int32) (f1_ : Nat → Int32) (f2_ : Nat → Int32) (f3_ : Nat → Int32) (n : Nat) (k : kS) (H : Heap) (locs : List Loc) (ls : Array Slot), wL_tell_165 S0 Q K f x4 x5 f1_ f2_ f3_ n k → gA D S0 g c1 41 f1_ → gA D S0 g c2 41 f2_ → zW D S0 (xR D S0 (gU D g q 64 f3_) k k) s.heap H locs → lv_has ls 6 [(0, .ref S0), (1, .ref c1), (2, .ref c2), (3, .ref q), (4, .int x4), (5, .int x5)] → W p l e { frames := 9, cells := 200, slots := 8 * 200, locals := 156 } s m args below meth c H locs n (8 * n) (MQ below (va_Qq (fun r (u : kS × Nat × (Nat → Int32)) => Q u.2.2 u.1 ∧ r = some u.2.1 ∧ g u.2.1 = none ∧ S0 + 9 ≤ u.2.1) (zB D S0 (fun u => xR D S0 (gU D g u.2.1 64 u.2.2) u.1 u.1)) (zA S0)) args s 200 (8 * 200) (zA S0)) (F0 m 165 ls []) := by
  intro f
  induction f with
  | zero => intro x4 x5 f1_ f2_ f3_ n k H locs ls h; exact h.elim
  | succ f ih =>
    intro x4 x5 f1_ f2_ f3_ n k H locs ls h hc1 hc2 hW hl
    unfold wL_tell_165 at h
    obtain ⟨hb_n, h⟩ := h
    refine lv_iload hx hb dL_tell_165 (lv_at hl 5 rfl) ?_
    refine lv_bipush (v := 6) hx hb dL_tell_167 (by decide) ?_
    refine lv_icmp_ge (tgt := 206) hx hb dL_tell_169 (by decide) (fun c_17 => ?_) (fun c_17 => ?_)
    · replace h := h.1 c_17
      refine lv_iinc (v := (x4 + 1)) (lv' := [(4, .int (x4 + 1)), (0, .ref S0), (1, .ref c1), (2, .ref c2), (3, .ref q), (5, .int x5)]) hx hb dL_tell_206 hl (k := 4) rfl rfl (by decide) rfl (fun ls hl => ?_)
      refine lv_goto (tgt := 140) hx hb dL_tell_209 (by decide) ?_
      exact hK (x4 + 1) f1_ f2_ f3_ n k _ _ _ h hc1 hc2 hW (lv_sub hl [1, 2, 3, 4, 0] rfl)
    · replace h := h.2 c_17
      refine lv_aload_n hx hb dL_tell_172 rfl (lv_at hl 3 rfl) ?_
      refine lv_iconst (v := 5) hx hb dL_tell_173 (by decide) ?_
      refine lv_iload hx hb dL_tell_174 (lv_at hl 4 rfl) ?_
      refine lv_iconst (v := 3) hx hb dL_tell_176 (by decide) ?_
      refine lv_irem hx hb dL_tell_177 (by decide) ?_
      refine lv_iadd hx hb dL_tell_178 ?_
      refine lv_bipush (v := 101) hx hb dL_tell_179 (by decide) ?_
      refine lv_aload_n hx hb dL_tell_181 rfl (lv_at hl 3 rfl) ?_
      refine lv_iconst (v := 5) hx hb dL_tell_182 (by decide) ?_
      refine lv_iload hx hb dL_tell_183 (lv_at hl 4 rfl) ?_
      refine lv_iconst (v := 3) hx hb dL_tell_185 (by decide) ?_
      refine lv_irem hx hb dL_tell_186 (by decide) ?_
      refine lv_iadd hx hb dL_tell_187 ?_
      obtain ⟨hb_18, h⟩ := h
      refine zw_iald hx hb hE.1 hW (gC (gU_self hq9)) hb_18 dL_tell_188 ?_
      refine lv_imul hx hb dL_tell_189 ?_
      refine lv_aload_n hx hb dL_tell_190 rfl (lv_at hl 0 rfl) ?_
      refine lv_iload hx hb dL_tell_191 (lv_at hl 4 rfl) ?_
      refine lv_iload hx hb dL_tell_193 (lv_at hl 5 rfl) ?_
      obtain ⟨hb_19, h⟩ := h
      refine zxc_i (vx_runV (As := [.int x4, .int x5]) (rest := [.int (101 * (f3_ ((5 + (x4 - x4 / 3 * 3)).toNatClampNeg))), .int (5 + (x4 - x4 / 3 * 3)), .ref q]) ⟨hx, hb, hml, hown, hts⟩ (cX5_owes_ok l hlt D S0 (gU D g q 64 f3_) k x4 x5 _ _ h) (cwV 2 hts gL_tell_X5_owes rfl rfl rfl (by decide +kernel) ⟨Nat.le_of_ble_eq_true rfl, Nat.le_of_ble_eq_true rfl⟩) (zpreV (q := (RX5, TX5, 7)) hE hs hW xC_U rfl) rfl rfl hl.1 rfl (lv_room (Nat.le_of_ble_eq_true rfl)) dL_tell_195 ⟨by show _ ≤ 200; omega, by show _ ≤ 8 * 200; omega⟩) hW (fun E ce q9 k21 H locs h hW hcell hv9 hcl9 => h.elim) (fun r20 k21 H locs h hW => ?_)
      replace hW := xW_start hW
      refine W.widen (k := n + 1) (n := 8 * (n + 1)) (by omega) (by omega) ?_
      refine lv_iadd hx hb dL_tell_198 ?_
      obtain ⟨hb_22, h⟩ := h
      obtain ⟨f23, ef23⟩ : ∃ y, y = upd f3_ ((5 + (x4 - x4 / 3 * 3)).toNatClampNeg) ((101 * (f3_ ((5 + (x4 - x4 / 3 * 3)).toNatClampNeg))) + r20) := ⟨_, rfl⟩
      replace h := h f23 ef23
      refine zw_iast hx hb hE.1 hW (gC (gU_self hq9)) hb_22 dL_tell_199 (gPU hq9) (fun H locs hW => ?_)
      rw [← ef23] at hW
      refine lv_iinc (v := (x5 + 1)) (lv' := [(5, .int (x5 + 1)), (0, .ref S0), (1, .ref c1), (2, .ref c2), (3, .ref q), (4, .int x4)]) hx hb dL_tell_200 hl (k := 5) rfl rfl (by decide) rfl (fun ls hl => ?_)
      refine lv_goto (tgt := 165) hx hb dL_tell_203 (by decide) ?_
      exact ih x4 (x5 + 1) f1_ f2_ f23 (n + 1) k21 _ _ _ h hc1 hc2 hW (lv_sub hl [1, 2, 3, 4, 5, 0] rfl)
def wL_tell_140 (S0 : Nat) (Q : (Nat → Int32) → kS → Prop) : Nat → Int32 → (Nat → Int32) → (Nat → Int32) → (Nat → Int32) → Nat → kS → Prop
  | 0, _, _, _, _, _, _ => False
  | f + 1, x4, f1_, f2_, f3_, n, k => (n ≤ 200 ∧ (((6 : Int32) ≤ x4 → Q f3_ k) ∧ (¬ (6 : Int32) ≤ x4 → (vp_in 4 64 ∧ (n + 1 ≤ 200 ∧ (wX5_quota S0 k x4 (fun r13 k14 => (vp_in 4 64 ∧ ∀ f16 : Nat → Int32, f16 = upd f3_ ((4 : Int32).toNatClampNeg) ((3 * (f3_ ((4 : Int32).toNatClampNeg))) + r13) → (∃ f24 : Nat, wL_tell_165 S0 Q (wL_tell_140 S0 Q f) f24 x4 0 f1_ f2_ f16 (n + 1) k14))) (fun _ _ => False)))))))
set_option maxHeartbeats 40000000 in
set_option maxRecDepth 100000 in
theorem tL_tell_140 (l : Launch) (hlt : l.stackTraces = false) (D : zD) (S0 : Nat) (g : zF) (c1 : Nat) (c2 : Nat) (q : Nat) (hq9 : S0 + 9 ≤ q) (hgq : g q = none) {p : Program} {e : Env} {s : State} {m : MethodId} {args : Array Value} {below : List Frame} {meth : Method} {c : Code} (hx : p.tables.exec = Jvm.exec) (hb : c.code = cL_tell) (hr : meth.sig.returnType = (some (.array .int))) (hml : c.maxLocals = 6) (hown : s.vm.findClass yL_tell.cls = some m.cls) (hts : ∀ w ∈ wsL_tell, w.before args s = true) (hlocks : meth.locks = false) (hs : S0 ≤ s.heap.size) (hE : zE D S0 s) (Q : (Nat → Int32) → kS → Prop) : ∀ f : Nat, ∀ (x4 : Int32) (f1_ : Nat → Int32) (f2_ : Nat → Int32) (f3_ : Nat → Int32) (n : Nat) (k : kS) (H : Heap) (locs : List Loc) (ls : Array Slot), wL_tell_140 S0 Q f x4 f1_ f2_ f3_ n k → gA D S0 g c1 41 f1_ → gA D S0 g c2 41 f2_ → zW D S0 (xR D S0 (gU D g q 64 f3_) k k) s.heap H locs → lv_has ls 6 [(0, .ref S0), (1, .ref c1), (2, .ref c2), (3, .ref q), (4, .int x4)] → W p l e { frames := 9, cells := 200, slots := 8 * 200, locals := 156 } s m args below meth c H locs n (8 * n) (MQ below (va_Qq (fun r (u : kS × Nat × (Nat → Int32)) => Q u.2.2 u.1 ∧ r = some u.2.1 ∧ g u.2.1 = none ∧ S0 + 9 ≤ u.2.1) (zB D S0 (fun u => xR D S0 (gU D g u.2.1 64 u.2.2) u.1 u.1)) (zA S0)) args s 200 (8 * 200) (zA S0)) (F0 m 140 ls []) := by
  intro f
  induction f with
  | zero => intro x4 f1_ f2_ f3_ n k H locs ls h; exact h.elim
  | succ f ih =>
    intro x4 f1_ f2_ f3_ n k H locs ls h hc1 hc2 hW hl
    unfold wL_tell_140 at h
    obtain ⟨hb_n, h⟩ := h
    refine lv_iload hx hb dL_tell_140 (lv_at hl 4 rfl) ?_
    refine lv_bipush (v := 6) hx hb dL_tell_142 (by decide) ?_
    refine lv_icmp_ge (tgt := 212) hx hb dL_tell_144 (by decide) (fun c_10 => ?_) (fun c_10 => ?_)
    · replace h := h.1 c_10
      refine lv_aload_n hx hb dL_tell_212 rfl (lv_at hl 3 rfl) ?_
      refine W.widen (k := 200) (n := 8 * 200) (by omega) (by omega) ?_
      exact z_aretA (u := (k, q, f3_)) hx hb hr hlocks hW ⟨h, rfl, hgq, hq9⟩ dL_tell_213
    · replace h := h.2 c_10
      refine lv_aload_n hx hb dL_tell_147 rfl (lv_at hl 3 rfl) ?_
      refine lv_iconst (v := 4) hx hb dL_tell_148 (by decide) ?_
      refine lv_iconst (v := 3) hx hb dL_tell_149 (by decide) ?_
      refine lv_aload_n hx hb dL_tell_150 rfl (lv_at hl 3 rfl) ?_
      refine lv_iconst (v := 4) hx hb dL_tell_151 (by decide) ?_
      obtain ⟨hb_11, h⟩ := h
      refine zw_iald hx hb hE.1 hW (gC (gU_self hq9)) hb_11 dL_tell_152 ?_
      refine lv_imul hx hb dL_tell_153 ?_
      refine lv_aload_n hx hb dL_tell_154 rfl (lv_at hl 0 rfl) ?_
      refine lv_iload hx hb dL_tell_155 (lv_at hl 4 rfl) ?_
      obtain ⟨hb_12, h⟩ := h
      refine zxc_i (vx_runV (As := [.int x4]) (rest := [.int (3 * (f3_ ((4 : Int32).toNatClampNeg))), .int 4, .ref q]) ⟨hx, hb, hml, hown, hts⟩ (cX5_quota_ok l hlt D S0 (gU D g q 64 f3_) k x4 _ _ h) (cwV 1 hts gL_tell_X5_quota rfl rfl rfl (by decide +kernel) ⟨Nat.le_of_ble_eq_true rfl, Nat.le_of_ble_eq_true rfl⟩) (zpreV (q := (RX5, TX5, 7)) hE hs hW xC_U rfl) rfl rfl hl.1 rfl (lv_room (Nat.le_of_ble_eq_true rfl)) dL_tell_157 ⟨by show _ ≤ 200; omega, by show _ ≤ 8 * 200; omega⟩) hW (fun E ce q9 k14 H locs h hW hcell hv9 hcl9 => h.elim) (fun r13 k14 H locs h hW => ?_)
      replace hW := xW_start hW
      refine W.widen (k := n + 1) (n := 8 * (n + 1)) (by omega) (by omega) ?_
      refine lv_iadd hx hb dL_tell_160 ?_
      obtain ⟨hb_15, h⟩ := h
      obtain ⟨f16, ef16⟩ : ∃ y, y = upd f3_ ((4 : Int32).toNatClampNeg) ((3 * (f3_ ((4 : Int32).toNatClampNeg))) + r13) := ⟨_, rfl⟩
      replace h := h f16 ef16
      refine zw_iast hx hb hE.1 hW (gC (gU_self hq9)) hb_15 dL_tell_161 (gPU hq9) (fun H locs hW => ?_)
      rw [← ef16] at hW
      refine lv_iconst (v := 0) hx hb dL_tell_162 (by decide) ?_
      refine lv_istore (lv' := [(5, .int 0), (0, .ref S0), (1, .ref c1), (2, .ref c2), (3, .ref q), (4, .int x4)]) hx hb dL_tell_163 hl (by decide) rfl (fun ls hl => ?_)
      obtain ⟨f24, h⟩ := h
      exact tL_tell_165 l hlt D S0 g c1 c2 q hq9 hgq hx hb hr hml hown hts hlocks hs hE Q (wL_tell_140 S0 Q f) ih f24 x4 0 f1_ f2_ f16 (n + 1) k14 _ _ _ h hc1 hc2 hW (lv_sub hl [1, 2, 3, 4, 5, 0] rfl)
def wL_tell_137 (S0 : Nat) (Q : (Nat → Int32) → kS → Prop) (f1_ : (Nat → Int32)) (f2_ : (Nat → Int32)) (f3_ : (Nat → Int32)) (n : Nat) (k : kS) : Prop := (n ≤ 200 ∧ (∃ f25 : Nat, wL_tell_140 S0 Q f25 0 f1_ f2_ f3_ n k))
set_option maxHeartbeats 40000000 in
set_option maxRecDepth 100000 in
theorem tL_tell_137 (l : Launch) (hlt : l.stackTraces = false) (D : zD) (S0 : Nat) (g : zF) (c1 : Nat) (c2 : Nat) (q : Nat) (hq9 : S0 + 9 ≤ q) (hgq : g q = none) {p : Program} {e : Env} {s : State} {m : MethodId} {args : Array Value} {below : List Frame} {meth : Method} {c : Code} (hx : p.tables.exec = Jvm.exec) (hb : c.code = cL_tell) (hr : meth.sig.returnType = (some (.array .int))) (hml : c.maxLocals = 6) (hown : s.vm.findClass yL_tell.cls = some m.cls) (hts : ∀ w ∈ wsL_tell, w.before args s = true) (hlocks : meth.locks = false) (hs : S0 ≤ s.heap.size) (hE : zE D S0 s) (Q : (Nat → Int32) → kS → Prop) : ∀ (f1_ : Nat → Int32) (f2_ : Nat → Int32) (f3_ : Nat → Int32) (n : Nat) (k : kS) (H : Heap) (locs : List Loc) (ls : Array Slot), wL_tell_137 S0 Q f1_ f2_ f3_ n k → gA D S0 g c1 41 f1_ → gA D S0 g c2 41 f2_ → zW D S0 (xR D S0 (gU D g q 64 f3_) k k) s.heap H locs → lv_has ls 6 [(0, .ref S0), (1, .ref c1), (2, .ref c2), (3, .ref q)] → W p l e { frames := 9, cells := 200, slots := 8 * 200, locals := 156 } s m args below meth c H locs n (8 * n) (MQ below (va_Qq (fun r (u : kS × Nat × (Nat → Int32)) => Q u.2.2 u.1 ∧ r = some u.2.1 ∧ g u.2.1 = none ∧ S0 + 9 ≤ u.2.1) (zB D S0 (fun u => xR D S0 (gU D g u.2.1 64 u.2.2) u.1 u.1)) (zA S0)) args s 200 (8 * 200) (zA S0)) (F0 m 137 ls []) := by
  intro f1_ f2_ f3_ n k H locs ls h hc1 hc2 hW hl
  unfold wL_tell_137 at h
  obtain ⟨hb_n, h⟩ := h
  refine lv_iconst (v := 0) hx hb dL_tell_137 (by decide) ?_
  refine lv_istore (lv' := [(4, .int 0), (0, .ref S0), (1, .ref c1), (2, .ref c2), (3, .ref q)]) hx hb dL_tell_138 hl (by decide) rfl (fun ls hl => ?_)
  obtain ⟨f25, h⟩ := h
  exact tL_tell_140 l hlt D S0 g c1 c2 q hq9 hgq hx hb hr hml hown hts hlocks hs hE Q f25 0 f1_ f2_ f3_ n k _ _ _ h hc1 hc2 hW (lv_sub hl [1, 2, 3, 4, 0] rfl)
def wL_tell_88 (S0 : Nat) (Q : (Nat → Int32) → kS → Prop) : Nat → Int32 → (Nat → Int32) → (Nat → Int32) → (Nat → Int32) → Nat → kS → Prop
  | 0, _, _, _, _, _, _ => False
  | f + 1, x4, f1_, f2_, f3_, n, k => (n ≤ 200 ∧ (vp_in 40 41 ∧ (((f2_ ((40 : Int32).toNatClampNeg)) ≤ x4 → (wL_tell_137 S0 Q f1_ f2_ f3_ n k)) ∧ (¬ (f2_ ((40 : Int32).toNatClampNeg)) ≤ x4 → (n + 1 ≤ 200 ∧ (wX5_state S0 k x4 (fun r27 k28 => (n + 1 + 1 ≤ 200 ∧ (wX5_copyOf S0 k28 x4 (fun r30 k31 => (n + 1 + 1 + 2 ≤ 200 ∧ (wL_due S0 k31 x4 (fun r33 k34 => (vp_in (10 + x4) 64 ∧ ∀ f36 : Nat → Int32, f36 = upd f3_ ((10 + x4).toNatClampNeg) (((1000000 * r27) + (10000 * r30)) + r33) → (wL_tell_88 S0 Q f (x4 + 1) f1_ f2_ f36 (n + 1 + 1 + 2) k34)))))) (fun _ _ => False)))) (fun _ _ => False)))))))
set_option maxHeartbeats 40000000 in
set_option maxRecDepth 100000 in
theorem tL_tell_88 (l : Launch) (hlt : l.stackTraces = false) (D : zD) (S0 : Nat) (g : zF) (c1 : Nat) (c2 : Nat) (q : Nat) (hq9 : S0 + 9 ≤ q) (hgq : g q = none) {p : Program} {e : Env} {s : State} {m : MethodId} {args : Array Value} {below : List Frame} {meth : Method} {c : Code} (hx : p.tables.exec = Jvm.exec) (hb : c.code = cL_tell) (hr : meth.sig.returnType = (some (.array .int))) (hml : c.maxLocals = 6) (hown : s.vm.findClass yL_tell.cls = some m.cls) (hts : ∀ w ∈ wsL_tell, w.before args s = true) (hlocks : meth.locks = false) (hs : S0 ≤ s.heap.size) (hE : zE D S0 s) (Q : (Nat → Int32) → kS → Prop) : ∀ f : Nat, ∀ (x4 : Int32) (f1_ : Nat → Int32) (f2_ : Nat → Int32) (f3_ : Nat → Int32) (n : Nat) (k : kS) (H : Heap) (locs : List Loc) (ls : Array Slot), wL_tell_88 S0 Q f x4 f1_ f2_ f3_ n k → gA D S0 g c1 41 f1_ → gA D S0 g c2 41 f2_ → zW D S0 (xR D S0 (gU D g q 64 f3_) k k) s.heap H locs → lv_has ls 6 [(0, .ref S0), (1, .ref c1), (2, .ref c2), (3, .ref q), (4, .int x4)] → W p l e { frames := 9, cells := 200, slots := 8 * 200, locals := 156 } s m args below meth c H locs n (8 * n) (MQ below (va_Qq (fun r (u : kS × Nat × (Nat → Int32)) => Q u.2.2 u.1 ∧ r = some u.2.1 ∧ g u.2.1 = none ∧ S0 + 9 ≤ u.2.1) (zB D S0 (fun u => xR D S0 (gU D g u.2.1 64 u.2.2) u.1 u.1)) (zA S0)) args s 200 (8 * 200) (zA S0)) (F0 m 88 ls []) := by
  intro f
  induction f with
  | zero => intro x4 f1_ f2_ f3_ n k H locs ls h; exact h.elim
  | succ f ih =>
    intro x4 f1_ f2_ f3_ n k H locs ls h hc1 hc2 hW hl
    unfold wL_tell_88 at h
    obtain ⟨hb_n, h⟩ := h
    refine lv_iload hx hb dL_tell_88 (lv_at hl 4 rfl) ?_
    refine lv_aload_n hx hb dL_tell_90 rfl (lv_at hl 2 rfl) ?_
    refine lv_bipush (v := 40) hx hb dL_tell_91 (by decide) ?_
    obtain ⟨hb_8, h⟩ := h
    refine zw_iald hx hb hE.1 hW (gC (gU_ne hc2 (gA_ne hc2 hgq))) hb_8 dL_tell_93 ?_
    refine lv_icmp_ge (tgt := 137) hx hb dL_tell_94 (by decide) (fun c_9 => ?_) (fun c_9 => ?_)
    · replace h := h.1 c_9
      exact tL_tell_137 l hlt D S0 g c1 c2 q hq9 hgq hx hb hr hml hown hts hlocks hs hE Q f1_ f2_ f3_ n k _ _ _ h hc1 hc2 hW (lv_sub hl [0, 1, 2, 3] rfl)
    · replace h := h.2 c_9
      refine lv_aload_n hx hb dL_tell_97 rfl (lv_at hl 3 rfl) ?_
      refine lv_bipush (v := 10) hx hb dL_tell_98 (by decide) ?_
      refine lv_iload hx hb dL_tell_100 (lv_at hl 4 rfl) ?_
      refine lv_iadd hx hb dL_tell_102 ?_
      refine lv_ldc (own := RL) (v := 1000000) hx hb hown (hts (.constant RL 70 (1000000)) (by decide +kernel)) dL_tell_103 ?_
      refine lv_aload_n hx hb dL_tell_105 rfl (lv_at hl 0 rfl) ?_
      refine lv_iload hx hb dL_tell_106 (lv_at hl 4 rfl) ?_
      obtain ⟨hb_26, h⟩ := h
      refine zxc_i (vx_runV (As := [.int x4]) (rest := [.int 1000000, .int (10 + x4), .ref q]) ⟨hx, hb, hml, hown, hts⟩ (cX5_state_ok l hlt D S0 (gU D g q 64 f3_) k x4 _ _ h) (cwV 1 hts gL_tell_X5_state rfl rfl rfl (by decide +kernel) ⟨Nat.le_of_ble_eq_true rfl, Nat.le_of_ble_eq_true rfl⟩) (zpreV (q := (RX5, TX5, 7)) hE hs hW xC_U rfl) rfl rfl hl.1 rfl (lv_room (Nat.le_of_ble_eq_true rfl)) dL_tell_108 ⟨by show _ ≤ 200; omega, by show _ ≤ 8 * 200; omega⟩) hW (fun E ce q9 k28 H locs h hW hcell hv9 hcl9 => h.elim) (fun r27 k28 H locs h hW => ?_)
      replace hW := xW_start hW
      refine W.widen (k := n + 1) (n := 8 * (n + 1)) (by omega) (by omega) ?_
      refine lv_imul hx hb dL_tell_111 ?_
      refine lv_sipush (v := 10000) hx hb dL_tell_112 (by decide) ?_
      refine lv_aload_n hx hb dL_tell_115 rfl (lv_at hl 0 rfl) ?_
      refine lv_iload hx hb dL_tell_116 (lv_at hl 4 rfl) ?_
      obtain ⟨hb_29, h⟩ := h
      refine zxc_i (vx_runV (As := [.int x4]) (rest := [.int 10000, .int (1000000 * r27), .int (10 + x4), .ref q]) ⟨hx, hb, hml, hown, hts⟩ (cX5_copyOf_ok l hlt D S0 (gU D g q 64 f3_) k28 x4 _ _ h) (cwV 1 hts gL_tell_X5_copyOf rfl rfl rfl (by decide +kernel) ⟨Nat.le_of_ble_eq_true rfl, Nat.le_of_ble_eq_true rfl⟩) (zpreV (q := (RX5, TX5, 7)) hE hs hW xC_U rfl) rfl rfl hl.1 rfl (lv_room (Nat.le_of_ble_eq_true rfl)) dL_tell_118 ⟨by show _ ≤ 200; omega, by show _ ≤ 8 * 200; omega⟩) hW (fun E ce q9 k31 H locs h hW hcell hv9 hcl9 => h.elim) (fun r30 k31 H locs h hW => ?_)
      replace hW := xW_start hW
      refine W.widen (k := n + 1 + 1) (n := 8 * (n + 1 + 1)) (by omega) (by omega) ?_
      refine lv_imul hx hb dL_tell_121 ?_
      refine lv_iadd hx hb dL_tell_122 ?_
      refine lv_aload_n hx hb dL_tell_123 rfl (lv_at hl 0 rfl) ?_
      refine lv_iload hx hb dL_tell_124 (lv_at hl 4 rfl) ?_
      obtain ⟨hb_32, h⟩ := h
      refine zc_i (vx_runSW (As := [.ref S0, .int x4]) (rest := [.int ((1000000 * r27) + (10000 * r30)), .int (10 + x4), .ref q]) ⟨hx, hb, hml, hown, hts⟩ (cL_due_ok l hlt D S0 (gU D g q 64 f3_) k31 x4 _ h) (vx_cwSW 2 hts gL_tell_L_due rfl rfl rfl (by decide +kernel) ⟨Nat.le_of_ble_eq_true rfl, Nat.le_of_ble_eq_true rfl⟩) (zpreS hE hs hW) rfl rfl hl.1 rfl (lv_room (Nat.le_of_ble_eq_true rfl)) dL_tell_126 ⟨by show _ ≤ 200; omega, by show _ ≤ 8 * 200; omega⟩) hW (fun r33 k34 H locs h hW => ?_)
      replace hW := xW_start hW
      refine W.widen (k := n + 1 + 1 + 2) (n := 8 * (n + 1 + 1 + 2)) (by omega) (by omega) ?_
      refine lv_iadd hx hb dL_tell_129 ?_
      obtain ⟨hb_35, h⟩ := h
      obtain ⟨f36, ef36⟩ : ∃ y, y = upd f3_ ((10 + x4).toNatClampNeg) (((1000000 * r27) + (10000 * r30)) + r33) := ⟨_, rfl⟩
      replace h := h f36 ef36
      refine zw_iast hx hb hE.1 hW (gC (gU_self hq9)) hb_35 dL_tell_130 (gPU hq9) (fun H locs hW => ?_)
      rw [← ef36] at hW
      refine lv_iinc (v := (x4 + 1)) (lv' := [(4, .int (x4 + 1)), (0, .ref S0), (1, .ref c1), (2, .ref c2), (3, .ref q)]) hx hb dL_tell_131 hl (k := 4) rfl rfl (by decide) rfl (fun ls hl => ?_)
      refine lv_goto (tgt := 88) hx hb dL_tell_134 (by decide) ?_
      exact ih (x4 + 1) f1_ f2_ f36 (n + 1 + 1 + 2) k34 _ _ _ h hc1 hc2 hW (lv_sub hl [1, 2, 3, 4, 0] rfl)
def wL_tell_85 (S0 : Nat) (Q : (Nat → Int32) → kS → Prop) (f1_ : (Nat → Int32)) (f2_ : (Nat → Int32)) (f3_ : (Nat → Int32)) (n : Nat) (k : kS) : Prop := (n ≤ 200 ∧ (∃ f37 : Nat, wL_tell_88 S0 Q f37 0 f1_ f2_ f3_ n k))
set_option maxHeartbeats 40000000 in
set_option maxRecDepth 100000 in
theorem tL_tell_85 (l : Launch) (hlt : l.stackTraces = false) (D : zD) (S0 : Nat) (g : zF) (c1 : Nat) (c2 : Nat) (q : Nat) (hq9 : S0 + 9 ≤ q) (hgq : g q = none) {p : Program} {e : Env} {s : State} {m : MethodId} {args : Array Value} {below : List Frame} {meth : Method} {c : Code} (hx : p.tables.exec = Jvm.exec) (hb : c.code = cL_tell) (hr : meth.sig.returnType = (some (.array .int))) (hml : c.maxLocals = 6) (hown : s.vm.findClass yL_tell.cls = some m.cls) (hts : ∀ w ∈ wsL_tell, w.before args s = true) (hlocks : meth.locks = false) (hs : S0 ≤ s.heap.size) (hE : zE D S0 s) (Q : (Nat → Int32) → kS → Prop) : ∀ (f1_ : Nat → Int32) (f2_ : Nat → Int32) (f3_ : Nat → Int32) (n : Nat) (k : kS) (H : Heap) (locs : List Loc) (ls : Array Slot), wL_tell_85 S0 Q f1_ f2_ f3_ n k → gA D S0 g c1 41 f1_ → gA D S0 g c2 41 f2_ → zW D S0 (xR D S0 (gU D g q 64 f3_) k k) s.heap H locs → lv_has ls 6 [(0, .ref S0), (1, .ref c1), (2, .ref c2), (3, .ref q)] → W p l e { frames := 9, cells := 200, slots := 8 * 200, locals := 156 } s m args below meth c H locs n (8 * n) (MQ below (va_Qq (fun r (u : kS × Nat × (Nat → Int32)) => Q u.2.2 u.1 ∧ r = some u.2.1 ∧ g u.2.1 = none ∧ S0 + 9 ≤ u.2.1) (zB D S0 (fun u => xR D S0 (gU D g u.2.1 64 u.2.2) u.1 u.1)) (zA S0)) args s 200 (8 * 200) (zA S0)) (F0 m 85 ls []) := by
  intro f1_ f2_ f3_ n k H locs ls h hc1 hc2 hW hl
  unfold wL_tell_85 at h
  obtain ⟨hb_n, h⟩ := h
  refine lv_iconst (v := 0) hx hb dL_tell_85 (by decide) ?_
  refine lv_istore (lv' := [(4, .int 0), (0, .ref S0), (1, .ref c1), (2, .ref c2), (3, .ref q)]) hx hb dL_tell_86 hl (by decide) rfl (fun ls hl => ?_)
  obtain ⟨f37, h⟩ := h
  exact tL_tell_88 l hlt D S0 g c1 c2 q hq9 hgq hx hb hr hml hown hts hlocks hs hE Q f37 0 f1_ f2_ f3_ n k _ _ _ h hc1 hc2 hW (lv_sub hl [1, 2, 3, 4, 0] rfl)
def wL_tell_15 (S0 : Nat) (Q : (Nat → Int32) → kS → Prop) : Nat → Int32 → (Nat → Int32) → (Nat → Int32) → (Nat → Int32) → Nat → kS → Prop
  | 0, _, _, _, _, _, _ => False
  | f + 1, x4, f1_, f2_, f3_, n, k => (n ≤ 200 ∧ (vp_in 40 41 ∧ (((f1_ ((40 : Int32).toNatClampNeg)) ≤ x4 → (wL_tell_85 S0 Q f1_ f2_ f3_ n k)) ∧ (¬ (f1_ ((40 : Int32).toNatClampNeg)) ≤ x4 → (vp_in 1 64 ∧ (n + 1 ≤ 200 ∧ (wX5_inHandsOf S0 k x4 (fun r40 k41 => (vp_in 1 64 ∧ ∀ f43 : Nat → Int32, f43 = upd f3_ ((1 : Int32).toNatClampNeg) ((31 * (f3_ ((1 : Int32).toNatClampNeg))) + r40) → (vp_in 2 64 ∧ (n + 1 + 1 ≤ 200 ∧ (wX5_listed S0 k41 x4 (fun r46 k47 => (vp_in 2 64 ∧ ∀ f49 : Nat → Int32, f49 = upd f43 ((2 : Int32).toNatClampNeg) ((31 * (f43 ((2 : Int32).toNatClampNeg))) + r46) → (vp_in 3 64 ∧ (n + 1 + 1 + 1 ≤ 200 ∧ (wX5_isFree S0 k47 x4 (fun r52 k53 => ((r52 = 0 → (vp_in 3 64 ∧ ∀ f56 : Nat → Int32, f56 = upd f49 ((3 : Int32).toNatClampNeg) ((2 * (f49 ((3 : Int32).toNatClampNeg))) + 0) → (wL_tell_15 S0 Q f (x4 + 1) f1_ f2_ f56 (n + 1 + 1 + 1) k53))) ∧ (¬ r52 = 0 → (vp_in 3 64 ∧ ∀ f58 : Nat → Int32, f58 = upd f49 ((3 : Int32).toNatClampNeg) ((2 * (f49 ((3 : Int32).toNatClampNeg))) + 1) → (wL_tell_15 S0 Q f (x4 + 1) f1_ f2_ f58 (n + 1 + 1 + 1) k53))))) (fun _ _ => False)))))) (fun _ _ => False)))))) (fun _ _ => False))))))))
set_option maxHeartbeats 40000000 in
set_option maxRecDepth 100000 in
theorem tL_tell_15 (l : Launch) (hlt : l.stackTraces = false) (D : zD) (S0 : Nat) (g : zF) (c1 : Nat) (c2 : Nat) (q : Nat) (hq9 : S0 + 9 ≤ q) (hgq : g q = none) {p : Program} {e : Env} {s : State} {m : MethodId} {args : Array Value} {below : List Frame} {meth : Method} {c : Code} (hx : p.tables.exec = Jvm.exec) (hb : c.code = cL_tell) (hr : meth.sig.returnType = (some (.array .int))) (hml : c.maxLocals = 6) (hown : s.vm.findClass yL_tell.cls = some m.cls) (hts : ∀ w ∈ wsL_tell, w.before args s = true) (hlocks : meth.locks = false) (hs : S0 ≤ s.heap.size) (hE : zE D S0 s) (Q : (Nat → Int32) → kS → Prop) : ∀ f : Nat, ∀ (x4 : Int32) (f1_ : Nat → Int32) (f2_ : Nat → Int32) (f3_ : Nat → Int32) (n : Nat) (k : kS) (H : Heap) (locs : List Loc) (ls : Array Slot), wL_tell_15 S0 Q f x4 f1_ f2_ f3_ n k → gA D S0 g c1 41 f1_ → gA D S0 g c2 41 f2_ → zW D S0 (xR D S0 (gU D g q 64 f3_) k k) s.heap H locs → lv_has ls 6 [(0, .ref S0), (1, .ref c1), (2, .ref c2), (3, .ref q), (4, .int x4)] → W p l e { frames := 9, cells := 200, slots := 8 * 200, locals := 156 } s m args below meth c H locs n (8 * n) (MQ below (va_Qq (fun r (u : kS × Nat × (Nat → Int32)) => Q u.2.2 u.1 ∧ r = some u.2.1 ∧ g u.2.1 = none ∧ S0 + 9 ≤ u.2.1) (zB D S0 (fun u => xR D S0 (gU D g u.2.1 64 u.2.2) u.1 u.1)) (zA S0)) args s 200 (8 * 200) (zA S0)) (F0 m 15 ls []) := by
  intro f
  induction f with
  | zero => intro x4 f1_ f2_ f3_ n k H locs ls h; exact h.elim
  | succ f ih =>
    intro x4 f1_ f2_ f3_ n k H locs ls h hc1 hc2 hW hl
    unfold wL_tell_15 at h
    obtain ⟨hb_n, h⟩ := h
    refine lv_iload hx hb dL_tell_15 (lv_at hl 4 rfl) ?_
    refine lv_aload_n hx hb dL_tell_17 rfl (lv_at hl 1 rfl) ?_
    refine lv_bipush (v := 40) hx hb dL_tell_18 (by decide) ?_
    obtain ⟨hb_6, h⟩ := h
    refine zw_iald hx hb hE.1 hW (gC (gU_ne hc1 (gA_ne hc1 hgq))) hb_6 dL_tell_20 ?_
    refine lv_icmp_ge (tgt := 85) hx hb dL_tell_21 (by decide) (fun c_7 => ?_) (fun c_7 => ?_)
    · replace h := h.1 c_7
      exact tL_tell_85 l hlt D S0 g c1 c2 q hq9 hgq hx hb hr hml hown hts hlocks hs hE Q f1_ f2_ f3_ n k _ _ _ h hc1 hc2 hW (lv_sub hl [0, 1, 2, 3] rfl)
    · replace h := h.2 c_7
      refine lv_aload_n hx hb dL_tell_24 rfl (lv_at hl 3 rfl) ?_
      refine lv_iconst (v := 1) hx hb dL_tell_25 (by decide) ?_
      refine lv_bipush (v := 31) hx hb dL_tell_26 (by decide) ?_
      refine lv_aload_n hx hb dL_tell_28 rfl (lv_at hl 3 rfl) ?_
      refine lv_iconst (v := 1) hx hb dL_tell_29 (by decide) ?_
      obtain ⟨hb_38, h⟩ := h
      refine zw_iald hx hb hE.1 hW (gC (gU_self hq9)) hb_38 dL_tell_30 ?_
      refine lv_imul hx hb dL_tell_31 ?_
      refine lv_aload_n hx hb dL_tell_32 rfl (lv_at hl 0 rfl) ?_
      refine lv_iload hx hb dL_tell_33 (lv_at hl 4 rfl) ?_
      obtain ⟨hb_39, h⟩ := h
      refine zxc_i (vx_runV (As := [.int x4]) (rest := [.int (31 * (f3_ ((1 : Int32).toNatClampNeg))), .int 1, .ref q]) ⟨hx, hb, hml, hown, hts⟩ (cX5_inHandsOf_ok l hlt D S0 (gU D g q 64 f3_) k x4 _ _ h) (cwV 1 hts gL_tell_X5_inHandsOf rfl rfl rfl (by decide +kernel) ⟨Nat.le_of_ble_eq_true rfl, Nat.le_of_ble_eq_true rfl⟩) (zpreV (q := (RX5, TX5, 7)) hE hs hW xC_U rfl) rfl rfl hl.1 rfl (lv_room (Nat.le_of_ble_eq_true rfl)) dL_tell_35 ⟨by show _ ≤ 200; omega, by show _ ≤ 8 * 200; omega⟩) hW (fun E ce q9 k41 H locs h hW hcell hv9 hcl9 => h.elim) (fun r40 k41 H locs h hW => ?_)
      replace hW := xW_start hW
      refine W.widen (k := n + 1) (n := 8 * (n + 1)) (by omega) (by omega) ?_
      refine lv_iadd hx hb dL_tell_38 ?_
      obtain ⟨hb_42, h⟩ := h
      obtain ⟨f43, ef43⟩ : ∃ y, y = upd f3_ ((1 : Int32).toNatClampNeg) ((31 * (f3_ ((1 : Int32).toNatClampNeg))) + r40) := ⟨_, rfl⟩
      replace h := h f43 ef43
      refine zw_iast hx hb hE.1 hW (gC (gU_self hq9)) hb_42 dL_tell_39 (gPU hq9) (fun H locs hW => ?_)
      rw [← ef43] at hW
      refine lv_aload_n hx hb dL_tell_40 rfl (lv_at hl 3 rfl) ?_
      refine lv_iconst (v := 2) hx hb dL_tell_41 (by decide) ?_
      refine lv_bipush (v := 31) hx hb dL_tell_42 (by decide) ?_
      refine lv_aload_n hx hb dL_tell_44 rfl (lv_at hl 3 rfl) ?_
      refine lv_iconst (v := 2) hx hb dL_tell_45 (by decide) ?_
      obtain ⟨hb_44, h⟩ := h
      refine zw_iald hx hb hE.1 hW (gC (gU_self hq9)) hb_44 dL_tell_46 ?_
      refine lv_imul hx hb dL_tell_47 ?_
      refine lv_aload_n hx hb dL_tell_48 rfl (lv_at hl 0 rfl) ?_
      refine lv_iload hx hb dL_tell_49 (lv_at hl 4 rfl) ?_
      obtain ⟨hb_45, h⟩ := h
      refine zxc_i (vx_runV (As := [.int x4]) (rest := [.int (31 * (f43 ((2 : Int32).toNatClampNeg))), .int 2, .ref q]) ⟨hx, hb, hml, hown, hts⟩ (cX5_listed_ok l hlt D S0 (gU D g q 64 f43) k41 x4 _ _ h) (cwV 1 hts gL_tell_X5_listed rfl rfl rfl (by decide +kernel) ⟨Nat.le_of_ble_eq_true rfl, Nat.le_of_ble_eq_true rfl⟩) (zpreV (q := (RX5, TX5, 7)) hE hs hW xC_U rfl) rfl rfl hl.1 rfl (lv_room (Nat.le_of_ble_eq_true rfl)) dL_tell_51 ⟨by show _ ≤ 200; omega, by show _ ≤ 8 * 200; omega⟩) hW (fun E ce q9 k47 H locs h hW hcell hv9 hcl9 => h.elim) (fun r46 k47 H locs h hW => ?_)
      replace hW := xW_start hW
      refine W.widen (k := n + 1 + 1) (n := 8 * (n + 1 + 1)) (by omega) (by omega) ?_
      refine lv_iadd hx hb dL_tell_54 ?_
      obtain ⟨hb_48, h⟩ := h
      obtain ⟨f49, ef49⟩ : ∃ y, y = upd f43 ((2 : Int32).toNatClampNeg) ((31 * (f43 ((2 : Int32).toNatClampNeg))) + r46) := ⟨_, rfl⟩
      replace h := h f49 ef49
      refine zw_iast hx hb hE.1 hW (gC (gU_self hq9)) hb_48 dL_tell_55 (gPU hq9) (fun H locs hW => ?_)
      rw [← ef49] at hW
      refine lv_aload_n hx hb dL_tell_56 rfl (lv_at hl 3 rfl) ?_
      refine lv_iconst (v := 3) hx hb dL_tell_57 (by decide) ?_
      refine lv_iconst (v := 2) hx hb dL_tell_58 (by decide) ?_
      refine lv_aload_n hx hb dL_tell_59 rfl (lv_at hl 3 rfl) ?_
      refine lv_iconst (v := 3) hx hb dL_tell_60 (by decide) ?_
      obtain ⟨hb_50, h⟩ := h
      refine zw_iald hx hb hE.1 hW (gC (gU_self hq9)) hb_50 dL_tell_61 ?_
      refine lv_imul hx hb dL_tell_62 ?_
      refine lv_aload_n hx hb dL_tell_63 rfl (lv_at hl 0 rfl) ?_
      refine lv_iload hx hb dL_tell_64 (lv_at hl 4 rfl) ?_
      obtain ⟨hb_51, h⟩ := h
      refine zxc_i (vx_runV (As := [.int x4]) (rest := [.int (2 * (f49 ((3 : Int32).toNatClampNeg))), .int 3, .ref q]) ⟨hx, hb, hml, hown, hts⟩ (cX5_isFree_ok l hlt D S0 (gU D g q 64 f49) k47 x4 _ _ h) (cwV 1 hts gL_tell_X5_isFree rfl rfl rfl (by decide +kernel) ⟨Nat.le_of_ble_eq_true rfl, Nat.le_of_ble_eq_true rfl⟩) (zpreV (q := (RX5, TX5, 7)) hE hs hW xC_U rfl) rfl rfl hl.1 rfl (lv_room (Nat.le_of_ble_eq_true rfl)) dL_tell_66 ⟨by show _ ≤ 200; omega, by show _ ≤ 8 * 200; omega⟩) hW (fun E ce q9 k53 H locs h hW hcell hv9 hcl9 => h.elim) (fun r52 k53 H locs h hW => ?_)
      replace h := h.1
      replace hW := xW_start hW
      refine W.widen (k := n + 1 + 1 + 1) (n := 8 * (n + 1 + 1 + 1)) (by omega) (by omega) ?_
      refine lv_if_eq (tgt := 76) hx hb dL_tell_69 (by decide) (fun c_54 => ?_) (fun c_54 => ?_)
      · replace h := h.1 c_54
        refine lv_iconst (v := 0) hx hb dL_tell_76 (by decide) ?_
        refine lv_iadd hx hb dL_tell_77 ?_
        obtain ⟨hb_55, h⟩ := h
        obtain ⟨f56, ef56⟩ : ∃ y, y = upd f49 ((3 : Int32).toNatClampNeg) ((2 * (f49 ((3 : Int32).toNatClampNeg))) + 0) := ⟨_, rfl⟩
        replace h := h f56 ef56
        refine zw_iast hx hb hE.1 hW (gC (gU_self hq9)) hb_55 dL_tell_78 (gPU hq9) (fun H locs hW => ?_)
        rw [← ef56] at hW
        refine lv_iinc (v := (x4 + 1)) (lv' := [(4, .int (x4 + 1)), (0, .ref S0), (1, .ref c1), (2, .ref c2), (3, .ref q)]) hx hb dL_tell_79 hl (k := 4) rfl rfl (by decide) rfl (fun ls hl => ?_)
        refine lv_goto (tgt := 15) hx hb dL_tell_82 (by decide) ?_
        exact ih (x4 + 1) f1_ f2_ f56 (n + 1 + 1 + 1) k53 _ _ _ h hc1 hc2 hW (lv_sub hl [1, 2, 3, 4, 0] rfl)
      · replace h := h.2 c_54
        refine lv_iconst (v := 1) hx hb dL_tell_72 (by decide) ?_
        refine lv_goto (tgt := 77) hx hb dL_tell_73 (by decide) ?_
        refine lv_iadd hx hb dL_tell_77 ?_
        obtain ⟨hb_57, h⟩ := h
        obtain ⟨f58, ef58⟩ : ∃ y, y = upd f49 ((3 : Int32).toNatClampNeg) ((2 * (f49 ((3 : Int32).toNatClampNeg))) + 1) := ⟨_, rfl⟩
        replace h := h f58 ef58
        refine zw_iast hx hb hE.1 hW (gC (gU_self hq9)) hb_57 dL_tell_78 (gPU hq9) (fun H locs hW => ?_)
        rw [← ef58] at hW
        refine lv_iinc (v := (x4 + 1)) (lv' := [(4, .int (x4 + 1)), (0, .ref S0), (1, .ref c1), (2, .ref c2), (3, .ref q)]) hx hb dL_tell_79 hl (k := 4) rfl rfl (by decide) rfl (fun ls hl => ?_)
        refine lv_goto (tgt := 15) hx hb dL_tell_82 (by decide) ?_
        exact ih (x4 + 1) f1_ f2_ f58 (n + 1 + 1 + 1) k53 _ _ _ h hc1 hc2 hW (lv_sub hl [1, 2, 3, 4, 0] rfl)
def wL_tell (S0 : Nat) (k0 : kS) (f1 : Nat → Int32) (f2 : Nat → Int32) (Q : (Nat → Int32) → kS → Prop) : Prop := (0 + 8 ≤ 200 ∧ (wX5_today S0 k0 (fun r2 k3 => (vp_in 0 64 ∧ ∀ f5 : Nat → Int32, f5 = upd (fun _ => 0) ((0 : Int32).toNatClampNeg) r2 → (∃ f59 : Nat, wL_tell_15 S0 Q f59 0 f1 f2 f5 (0 + 8) k3)))))
set_option maxHeartbeats 8000000 in
set_option maxRecDepth 100000 in
theorem cL_tell_ok (l : Launch) (hlt : l.stackTraces = false) (D : zD) (S0 : Nat) (g : zF) (k0 : kS) (c1 : Nat) (c2 : Nat) (f1 : Nat → Int32) (f2 : Nat → Int32) (hc1 : gA D S0 g c1 41 f1) (hc2 : gA D S0 g c2 41 f2) (Q : (Nat → Int32) → kS → Prop) (h : wL_tell S0 k0 f1 f2 Q) : Met l yL_tell wsL_tell { frames := 9, cells := 200, slots := 8 * 200, locals := 156 } (zPc D S0 (xR D S0 g k0 k0) [.ref S0, .ref c1, .ref c2]) (va_Qq (fun r (u : kS × Nat × (Nat → Int32)) => Q u.2.2 u.1 ∧ r = some u.2.1 ∧ g u.2.1 = none ∧ S0 + 9 ≤ u.2.1) (zB D S0 (fun u => xR D S0 (gU D g u.2.1 64 u.2.2) u.1 u.1)) (zA S0)) 200 (8 * 200) (zA S0) := by
  refine zMet (cc := cL_tell) (maxL := 6) (ret := (some (.array .int))) (by decide) rfl (Nat.le_of_ble_eq_true rfl) (fun p e s m args below meth c ls hx hb hr hml hown hts hlocks hnm hs hE hW hl => ?_)
  replace hl : lv_has ls 6 [(0, .ref S0), (1, .ref c1), (2, .ref c2)] := hl
  have hsz := xW_sz hW
  unfold wL_tell at h
  refine lv_bipush (v := 64) hx hb dL_tell_0 (by decide) ?_
  obtain ⟨hb_1, h⟩ := h
  refine zw_newi (N' := 64) hx hb (hts (.arrayClass .int) (by decide +kernel)) hE.1 hW hs (by decide) rfl (Nat.le_of_ble_eq_true rfl) (by show _ ≤ 200; omega) (by show _ ≤ 8 * 200; omega) dL_tell_2 (fun q H hW hq9 => ?_)
  refine W.widen (k := 0 + 8) (n := 8 * (0 + 8)) (by omega) (by omega) ?_
  replace hq9 : S0 + 9 ≤ q := Nat.le_trans hsz hq9
  obtain ⟨hgq, hW⟩ := gW_new hW hq9
  refine lv_astore_n (lv' := [(3, .ref q), (0, .ref S0), (1, .ref c1), (2, .ref c2)]) hx hb dL_tell_4 rfl hl (by decide) rfl (fun ls hl => ?_)
  refine lv_aload_n hx hb dL_tell_5 rfl (lv_at hl 0 rfl) ?_
  refine lv_iconst (v := 0) hx hb dL_tell_6 (by decide) ?_
  refine lv_aload_n hx hb dL_tell_7 rfl (lv_at hl 1 rfl) ?_
  refine zc_i (va_runV (As := []) (rest := [.int 0, .ref q]) ⟨hx, hb, hml, hown, hts⟩ (cX5_today_ok l hlt D S0 (gU D g q 64 (fun _ => 0)) k0 _ h) (cwV 0 hts gL_tell_X5_today rfl rfl rfl (by decide +kernel) ⟨Nat.le_of_ble_eq_true rfl, Nat.le_of_ble_eq_true rfl⟩) (zpreV (q := (RX5, TX5, 7)) hE hs hW xC_U rfl) rfl rfl hl.1 rfl (lv_room (Nat.le_of_ble_eq_true rfl)) dL_tell_8 ⟨by show _ ≤ 200; omega, by show _ ≤ 8 * 200; omega⟩) hW (fun r2 k3 H locs h hW => ?_)
  replace hW := xW_start hW
  refine W.widen (k := 0 + 8) (n := 8 * (0 + 8)) (by omega) (by omega) ?_
  obtain ⟨hb_4, h⟩ := h
  obtain ⟨f5, ef5⟩ : ∃ y, y = upd (fun _ => 0) ((0 : Int32).toNatClampNeg) r2 := ⟨_, rfl⟩
  replace h := h f5 ef5
  refine zw_iast hx hb hE.1 hW (gC (gU_self hq9)) hb_4 dL_tell_11 (gPU hq9) (fun H locs hW => ?_)
  rw [← ef5] at hW
  refine lv_iconst (v := 0) hx hb dL_tell_12 (by decide) ?_
  refine lv_istore (lv' := [(4, .int 0), (3, .ref q), (0, .ref S0), (1, .ref c1), (2, .ref c2)]) hx hb dL_tell_13 hl (by decide) rfl (fun ls hl => ?_)
  obtain ⟨f59, h⟩ := h
  exact tL_tell_15 l hlt D S0 g c1 c2 q hq9 hgq hx hb hr hml hown hts hlocks hs hE Q f59 0 f1 f2 f5 (0 + 8) k3 _ _ _ h hc1 hc2 hW (lv_sub hl [2, 3, 4, 1, 0] rfl)

