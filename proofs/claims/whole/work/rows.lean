section
-- ===== PART A: goes FIRST, ahead of the names: the tables' words, and 'selects' of the private methods out of them =====
/-- a private method of a class that the tables say can be made, by its rows of tables_1 -/
def lw_okq (q : MethodName × Nat) : Prop := (q.1.cls ≠ "java/lang/invoke/MethodHandle" ∧ q.1.cls ≠ "java/lang/invoke/VarHandle") ∧ Cond.instantiable q.1.cls q.2 ∈ tables_1 ∧ Cond.privateMethod q.1 ∈ tables_1 ∧ Cond.instanceMethod q.1 ∈ tables_1
theorem lw_p0 : lw_okq (⟨"java/lang/Throwable", "fillInStackTrace", "(I)Ljava/lang/Throwable;"⟩, 6) := ⟨⟨by decide +kernel, by decide +kernel⟩, List.mem_of_getElem? (i := 156) (by decide +kernel), List.mem_of_getElem? (i := 154) (by decide +kernel), List.mem_of_getElem? (i := 155) (by decide +kernel)⟩
theorem lw_p1 : lw_okq (⟨"UnionList", "sendNews", "(ILUnionList$Copy;)V"⟩, 7) := ⟨⟨by decide +kernel, by decide +kernel⟩, List.mem_of_getElem? (i := 16) (by decide +kernel), List.mem_of_getElem? (i := 246) (by decide +kernel), List.mem_of_getElem? (i := 247) (by decide +kernel)⟩
theorem lw_p2 : lw_okq (⟨"UnionList", "send", "(IILUnionList$Copy;LUnionList$Request;)I"⟩, 7) := ⟨⟨by decide +kernel, by decide +kernel⟩, List.mem_of_getElem? (i := 16) (by decide +kernel), List.mem_of_getElem? (i := 253) (by decide +kernel), List.mem_of_getElem? (i := 254) (by decide +kernel)⟩
theorem lw_p3 : lw_okq (⟨"UnionList", "copyNumbered", "(I)LUnionList$Copy;"⟩, 7) := ⟨⟨by decide +kernel, by decide +kernel⟩, List.mem_of_getElem? (i := 16) (by decide +kernel), List.mem_of_getElem? (i := 292) (by decide +kernel), List.mem_of_getElem? (i := 293) (by decide +kernel)⟩
theorem lw_p4 : lw_okq (⟨"UnionList", "examine", "(LUnionList$Copy;)I"⟩, 7) := ⟨⟨by decide +kernel, by decide +kernel⟩, List.mem_of_getElem? (i := 16) (by decide +kernel), List.mem_of_getElem? (i := 354) (by decide +kernel), List.mem_of_getElem? (i := 355) (by decide +kernel)⟩
theorem lw_p5 : lw_okq (⟨"UnionList", "askNextHome", "(LUnionList$Request;)V"⟩, 7) := ⟨⟨by decide +kernel, by decide +kernel⟩, List.mem_of_getElem? (i := 16) (by decide +kernel), List.mem_of_getElem? (i := 412) (by decide +kernel), List.mem_of_getElem? (i := 413) (by decide +kernel)⟩
theorem lw_p6 : lw_okq (⟨"UnionList", "nearestListedFree", "(LUnionList$Request;)LUnionList$Copy;"⟩, 7) := ⟨⟨by decide +kernel, by decide +kernel⟩, List.mem_of_getElem? (i := 16) (by decide +kernel), List.mem_of_getElem? (i := 416) (by decide +kernel), List.mem_of_getElem? (i := 417) (by decide +kernel)⟩
theorem lw_p7 : lw_okq (⟨"UnionList", "requestNumbered", "(I)LUnionList$Request;"⟩, 7) := ⟨⟨by decide +kernel, by decide +kernel⟩, List.mem_of_getElem? (i := 16) (by decide +kernel), List.mem_of_getElem? (i := 441) (by decide +kernel), List.mem_of_getElem? (i := 442) (by decide +kernel)⟩
theorem lw_p8 : lw_okq (⟨"UnionList", "arrivalsOfNextDay", "()I"⟩, 7) := ⟨⟨by decide +kernel, by decide +kernel⟩, List.mem_of_getElem? (i := 16) (by decide +kernel), List.mem_of_getElem? (i := 492) (by decide +kernel), List.mem_of_getElem? (i := 493) (by decide +kernel)⟩
theorem lw_p9 : lw_okq (⟨"UnionList", "deliver", "(LUnionList$Sent;)V"⟩, 7) := ⟨⟨by decide +kernel, by decide +kernel⟩, List.mem_of_getElem? (i := 16) (by decide +kernel), List.mem_of_getElem? (i := 504) (by decide +kernel), List.mem_of_getElem? (i := 505) (by decide +kernel)⟩
theorem lw_p10 : lw_okq (⟨"UnionList", "answerQuestion", "(LUnionList$Copy;LUnionList$Request;)V"⟩, 7) := ⟨⟨by decide +kernel, by decide +kernel⟩, List.mem_of_getElem? (i := 16) (by decide +kernel), List.mem_of_getElem? (i := 508) (by decide +kernel), List.mem_of_getElem? (i := 509) (by decide +kernel)⟩
theorem lw_p11 : lw_okq (⟨"UnionList", "beginLoan", "(LUnionList$Copy;LUnionList$Request;)V"⟩, 7) := ⟨⟨by decide +kernel, by decide +kernel⟩, List.mem_of_getElem? (i := 16) (by decide +kernel), List.mem_of_getElem? (i := 512) (by decide +kernel), List.mem_of_getElem? (i := 513) (by decide +kernel)⟩
theorem lw_p12 : lw_okq (⟨"UnionList", "comeHome", "(LUnionList$Copy;LUnionList$Request;)V"⟩, 7) := ⟨⟨by decide +kernel, by decide +kernel⟩, List.mem_of_getElem? (i := 16) (by decide +kernel), List.mem_of_getElem? (i := 521) (by decide +kernel), List.mem_of_getElem? (i := 522) (by decide +kernel)⟩
theorem lw_p13 : lw_okq (⟨"UnionList", "prolong", "(LUnionList$Request;)V"⟩, 7) := ⟨⟨by decide +kernel, by decide +kernel⟩, List.mem_of_getElem? (i := 16) (by decide +kernel), List.mem_of_getElem? (i := 525) (by decide +kernel), List.mem_of_getElem? (i := 526) (by decide +kernel)⟩
theorem lw_p14 : lw_okq (⟨"UnionList", "shorten", "(LUnionList$Request;)V"⟩, 7) := ⟨⟨by decide +kernel, by decide +kernel⟩, List.mem_of_getElem? (i := 16) (by decide +kernel), List.mem_of_getElem? (i := 529) (by decide +kernel), List.mem_of_getElem? (i := 530) (by decide +kernel)⟩
theorem lw_p15 : lw_okq (⟨"UnionListModel", "isHouse", "(I)Z"⟩, 24) := ⟨⟨by decide +kernel, by decide +kernel⟩, List.mem_of_getElem? (i := 557) (by decide +kernel), List.mem_of_getElem? (i := 644) (by decide +kernel), List.mem_of_getElem? (i := 645) (by decide +kernel)⟩
def lw_privs_1 : List (MethodName × Nat) := [(⟨"java/lang/Throwable", "fillInStackTrace", "(I)Ljava/lang/Throwable;"⟩, 6), (⟨"UnionList", "sendNews", "(ILUnionList$Copy;)V"⟩, 7), (⟨"UnionList", "send", "(IILUnionList$Copy;LUnionList$Request;)I"⟩, 7), (⟨"UnionList", "copyNumbered", "(I)LUnionList$Copy;"⟩, 7), (⟨"UnionList", "examine", "(LUnionList$Copy;)I"⟩, 7), (⟨"UnionList", "askNextHome", "(LUnionList$Request;)V"⟩, 7), (⟨"UnionList", "nearestListedFree", "(LUnionList$Request;)LUnionList$Copy;"⟩, 7), (⟨"UnionList", "requestNumbered", "(I)LUnionList$Request;"⟩, 7), (⟨"UnionList", "arrivalsOfNextDay", "()I"⟩, 7), (⟨"UnionList", "deliver", "(LUnionList$Sent;)V"⟩, 7), (⟨"UnionList", "answerQuestion", "(LUnionList$Copy;LUnionList$Request;)V"⟩, 7), (⟨"UnionList", "beginLoan", "(LUnionList$Copy;LUnionList$Request;)V"⟩, 7), (⟨"UnionList", "comeHome", "(LUnionList$Copy;LUnionList$Request;)V"⟩, 7), (⟨"UnionList", "prolong", "(LUnionList$Request;)V"⟩, 7), (⟨"UnionList", "shorten", "(LUnionList$Request;)V"⟩, 7), (⟨"UnionListModel", "isHouse", "(I)Z"⟩, 24)]
theorem lw_r1 : ∀ q ∈ lw_privs_1, lw_okq q := List.forall_mem_cons.mpr ⟨lw_p0, List.forall_mem_cons.mpr ⟨lw_p1, List.forall_mem_cons.mpr ⟨lw_p2, List.forall_mem_cons.mpr ⟨lw_p3, List.forall_mem_cons.mpr ⟨lw_p4, List.forall_mem_cons.mpr ⟨lw_p5, List.forall_mem_cons.mpr ⟨lw_p6, List.forall_mem_cons.mpr ⟨lw_p7, List.forall_mem_cons.mpr ⟨lw_p8, List.forall_mem_cons.mpr ⟨lw_p9, List.forall_mem_cons.mpr ⟨lw_p10, List.forall_mem_cons.mpr ⟨lw_p11, List.forall_mem_cons.mpr ⟨lw_p12, List.forall_mem_cons.mpr ⟨lw_p13, List.forall_mem_cons.mpr ⟨lw_p14, List.forall_mem_cons.mpr ⟨lw_p15, fun _ h => absurd h List.not_mem_nil⟩⟩⟩⟩⟩⟩⟩⟩⟩⟩⟩⟩⟩⟩⟩⟩
theorem lw_p16 : lw_okq (⟨"UnionListModel", "between", "(III)Z"⟩, 24) := ⟨⟨by decide +kernel, by decide +kernel⟩, List.mem_of_getElem? (i := 557) (by decide +kernel), List.mem_of_getElem? (i := 648) (by decide +kernel), List.mem_of_getElem? (i := 649) (by decide +kernel)⟩
theorem lw_p17 : lw_okq (⟨"UnionListModel", "holds", "(I)Z"⟩, 24) := ⟨⟨by decide +kernel, by decide +kernel⟩, List.mem_of_getElem? (i := 557) (by decide +kernel), List.mem_of_getElem? (i := 652) (by decide +kernel), List.mem_of_getElem? (i := 653) (by decide +kernel)⟩
theorem lw_p18 : lw_okq (⟨"UnionListModel", "tell", "(II)V"⟩, 24) := ⟨⟨by decide +kernel, by decide +kernel⟩, List.mem_of_getElem? (i := 557) (by decide +kernel), List.mem_of_getElem? (i := 656) (by decide +kernel), List.mem_of_getElem? (i := 657) (by decide +kernel)⟩
theorem lw_p19 : lw_okq (⟨"UnionListModel", "send", "(III)I"⟩, 24) := ⟨⟨by decide +kernel, by decide +kernel⟩, List.mem_of_getElem? (i := 557) (by decide +kernel), List.mem_of_getElem? (i := 660) (by decide +kernel), List.mem_of_getElem? (i := 661) (by decide +kernel)⟩
theorem lw_p20 : lw_okq (⟨"UnionListModel", "isCopy", "(I)Z"⟩, 24) := ⟨⟨by decide +kernel, by decide +kernel⟩, List.mem_of_getElem? (i := 557) (by decide +kernel), List.mem_of_getElem? (i := 668) (by decide +kernel), List.mem_of_getElem? (i := 669) (by decide +kernel)⟩
theorem lw_p21 : lw_okq (⟨"UnionListModel", "free", "(I)Z"⟩, 24) := ⟨⟨by decide +kernel, by decide +kernel⟩, List.mem_of_getElem? (i := 557) (by decide +kernel), List.mem_of_getElem? (i := 676) (by decide +kernel), List.mem_of_getElem? (i := 677) (by decide +kernel)⟩
theorem lw_p22 : lw_okq (⟨"UnionListModel", "find", "(I)I"⟩, 24) := ⟨⟨by decide +kernel, by decide +kernel⟩, List.mem_of_getElem? (i := 557) (by decide +kernel), List.mem_of_getElem? (i := 692) (by decide +kernel), List.mem_of_getElem? (i := 693) (by decide +kernel)⟩
theorem lw_p23 : lw_okq (⟨"UnionListModel", "owe", "(III)V"⟩, 24) := ⟨⟨by decide +kernel, by decide +kernel⟩, List.mem_of_getElem? (i := 557) (by decide +kernel), List.mem_of_getElem? (i := 696) (by decide +kernel), List.mem_of_getElem? (i := 697) (by decide +kernel)⟩
theorem lw_p24 : lw_okq (⟨"UnionListModel", "ask", "(I)V"⟩, 24) := ⟨⟨by decide +kernel, by decide +kernel⟩, List.mem_of_getElem? (i := 557) (by decide +kernel), List.mem_of_getElem? (i := 708) (by decide +kernel), List.mem_of_getElem? (i := 709) (by decide +kernel)⟩
theorem lw_p25 : lw_okq (⟨"UnionListModel", "way", "(II)I"⟩, 24) := ⟨⟨by decide +kernel, by decide +kernel⟩, List.mem_of_getElem? (i := 557) (by decide +kernel), List.mem_of_getElem? (i := 712) (by decide +kernel), List.mem_of_getElem? (i := 713) (by decide +kernel)⟩
theorem lw_p26 : lw_okq (⟨"UnionListModel", "isRequest", "(I)Z"⟩, 24) := ⟨⟨by decide +kernel, by decide +kernel⟩, List.mem_of_getElem? (i := 557) (by decide +kernel), List.mem_of_getElem? (i := 720) (by decide +kernel), List.mem_of_getElem? (i := 721) (by decide +kernel)⟩
theorem lw_p27 : lw_okq (⟨"UnionListModel", "refuses", "(I)I"⟩, 24) := ⟨⟨by decide +kernel, by decide +kernel⟩, List.mem_of_getElem? (i := 557) (by decide +kernel), List.mem_of_getElem? (i := 732) (by decide +kernel), List.mem_of_getElem? (i := 733) (by decide +kernel)⟩
theorem lw_p28 : lw_okq (⟨"UnionListModel", "length", "(I)I"⟩, 24) := ⟨⟨by decide +kernel, by decide +kernel⟩, List.mem_of_getElem? (i := 557) (by decide +kernel), List.mem_of_getElem? (i := 740) (by decide +kernel), List.mem_of_getElem? (i := 741) (by decide +kernel)⟩
theorem lw_p29 : lw_okq (⟨"UnionListModel", "arriveAll", "()I"⟩, 24) := ⟨⟨by decide +kernel, by decide +kernel⟩, List.mem_of_getElem? (i := 557) (by decide +kernel), List.mem_of_getElem? (i := 756) (by decide +kernel), List.mem_of_getElem? (i := 757) (by decide +kernel)⟩
theorem lw_p30 : lw_okq (⟨"UnionListModel", "arrive", "(II)V"⟩, 24) := ⟨⟨by decide +kernel, by decide +kernel⟩, List.mem_of_getElem? (i := 557) (by decide +kernel), List.mem_of_getElem? (i := 760) (by decide +kernel), List.mem_of_getElem? (i := 761) (by decide +kernel)⟩
theorem lw_p31 : lw_okq (⟨"UnionListModel", "answer", "(I)V"⟩, 24) := ⟨⟨by decide +kernel, by decide +kernel⟩, List.mem_of_getElem? (i := 557) (by decide +kernel), List.mem_of_getElem? (i := 764) (by decide +kernel), List.mem_of_getElem? (i := 765) (by decide +kernel)⟩
def lw_privs_2 : List (MethodName × Nat) := [(⟨"UnionListModel", "between", "(III)Z"⟩, 24), (⟨"UnionListModel", "holds", "(I)Z"⟩, 24), (⟨"UnionListModel", "tell", "(II)V"⟩, 24), (⟨"UnionListModel", "send", "(III)I"⟩, 24), (⟨"UnionListModel", "isCopy", "(I)Z"⟩, 24), (⟨"UnionListModel", "free", "(I)Z"⟩, 24), (⟨"UnionListModel", "find", "(I)I"⟩, 24), (⟨"UnionListModel", "owe", "(III)V"⟩, 24), (⟨"UnionListModel", "ask", "(I)V"⟩, 24), (⟨"UnionListModel", "way", "(II)I"⟩, 24), (⟨"UnionListModel", "isRequest", "(I)Z"⟩, 24), (⟨"UnionListModel", "refuses", "(I)I"⟩, 24), (⟨"UnionListModel", "length", "(I)I"⟩, 24), (⟨"UnionListModel", "arriveAll", "()I"⟩, 24), (⟨"UnionListModel", "arrive", "(II)V"⟩, 24), (⟨"UnionListModel", "answer", "(I)V"⟩, 24)]
theorem lw_r2 : ∀ q ∈ lw_privs_2, lw_okq q := List.forall_mem_cons.mpr ⟨lw_p16, List.forall_mem_cons.mpr ⟨lw_p17, List.forall_mem_cons.mpr ⟨lw_p18, List.forall_mem_cons.mpr ⟨lw_p19, List.forall_mem_cons.mpr ⟨lw_p20, List.forall_mem_cons.mpr ⟨lw_p21, List.forall_mem_cons.mpr ⟨lw_p22, List.forall_mem_cons.mpr ⟨lw_p23, List.forall_mem_cons.mpr ⟨lw_p24, List.forall_mem_cons.mpr ⟨lw_p25, List.forall_mem_cons.mpr ⟨lw_p26, List.forall_mem_cons.mpr ⟨lw_p27, List.forall_mem_cons.mpr ⟨lw_p28, List.forall_mem_cons.mpr ⟨lw_p29, List.forall_mem_cons.mpr ⟨lw_p30, List.forall_mem_cons.mpr ⟨lw_p31, fun _ h => absurd h List.not_mem_nil⟩⟩⟩⟩⟩⟩⟩⟩⟩⟩⟩⟩⟩⟩⟩⟩
theorem lw_p32 : lw_okq (⟨"UnionListModel", "come", "(I)V"⟩, 24) := ⟨⟨by decide +kernel, by decide +kernel⟩, List.mem_of_getElem? (i := 557) (by decide +kernel), List.mem_of_getElem? (i := 768) (by decide +kernel), List.mem_of_getElem? (i := 769) (by decide +kernel)⟩
theorem lw_p33 : lw_okq (⟨"UnionListModel", "homes", "(I)I"⟩, 24) := ⟨⟨by decide +kernel, by decide +kernel⟩, List.mem_of_getElem? (i := 557) (by decide +kernel), List.mem_of_getElem? (i := 772) (by decide +kernel), List.mem_of_getElem? (i := 773) (by decide +kernel)⟩
theorem lw_p34 : lw_okq (⟨"UnionListModel", "plain", "(I)I"⟩, 24) := ⟨⟨by decide +kernel, by decide +kernel⟩, List.mem_of_getElem? (i := 557) (by decide +kernel), List.mem_of_getElem? (i := 780) (by decide +kernel), List.mem_of_getElem? (i := 781) (by decide +kernel)⟩
def lw_privs_3 : List (MethodName × Nat) := [(⟨"UnionListModel", "come", "(I)V"⟩, 24), (⟨"UnionListModel", "homes", "(I)I"⟩, 24), (⟨"UnionListModel", "plain", "(I)I"⟩, 24)]
theorem lw_r3 : ∀ q ∈ lw_privs_3, lw_okq q := List.forall_mem_cons.mpr ⟨lw_p32, List.forall_mem_cons.mpr ⟨lw_p33, List.forall_mem_cons.mpr ⟨lw_p34, fun _ h => absurd h List.not_mem_nil⟩⟩⟩
def lw_privs : List (MethodName × Nat) := lw_privs_1 ++ (lw_privs_2 ++ (lw_privs_3))
def lw_tbl : List Cond := k2_sels lw_privs ++ tables_1
theorem lw_privs_ok : ∀ q ∈ lw_privs, lw_okq q := by
  show ∀ q ∈ lw_privs_1 ++ (lw_privs_2 ++ (lw_privs_3)), lw_okq q
  exact List.forall_mem_append.mpr ⟨lw_r1, List.forall_mem_append.mpr ⟨lw_r2, lw_r3⟩⟩
end
section
/-! ===== BEGIN words of one list among another's, by their places ===== -/
theorem goodIn_r {big : List Cond} (ws : List Cond) (ps : List Nat) (hp : ws = ps.filterMap (fun i => big[i]?)) (h : ws.all goodWord = true) : GoodIn big ws := by
  intro w hw
  have h1 := List.all_eq_true.mp h w hw
  rw [hp] at hw
  obtain ⟨i, -, hi⟩ := List.mem_filterMap.mp hw
  have hm : w ∈ big := by first | exact List.mem_of_getElem? hi | exact List.getElem?_mem hi
  exact ⟨hm, good_of_word h1⟩
theorem goodIn_app {big a b : List Cond} (ha : GoodIn big a) (hb : GoodIn big b) : GoodIn big (a ++ b) := fun w h => (List.mem_append.mp h).elim (ha w) (hb w)
theorem goodIn_ca {big a b : List Cond} {c : Cond} (ha : GoodIn big (c :: a)) (hb : GoodIn big b) : GoodIn big (c :: (a ++ b)) := fun w h => (List.mem_cons.mp h).elim (fun e => ha w (List.mem_cons.mpr (Or.inl e))) (fun h => (List.mem_append.mp h).elim (fun h => ha w (List.mem_cons.mpr (Or.inr h))) (hb w))
theorem goodIn_sub {big ws : List Cond} (hm : ∀ w ∈ ws, w ∈ big) (h : ws.all goodWord = true) : GoodIn big ws := fun w hw => ⟨hm w hw, good_of_word (List.all_eq_true.mp h w hw)⟩
/-! ===== END ===== -/

/-! ===== BEGIN exceptions that leave a method, and their catching by the caller (launches without stack traces) ===== -/
section VXA
/-! The laws vx_back, vx_callV, vx_callS, vx_callSW, vx_throw0, vx_throwS follow proofs of the library, with one case more: JvmDerived/Free/Laws.lean (Back.of_free), Shelf42/LK1.lean (callV, callS), Shelf/KitTraced.lean (throwNew0V, throwNewS). -/
/-- where a method has thrown q: the class by its name, the cell, what was written, the world -/
def vx_T (XC : String → State → State → Prop) (st : State) (q : Addr) (t : State) (mc ms : Nat) (free : Addr → Prop) : Prop :=
  ∃ (E : String) (ce : Cell) (L : List Loc), XC E st t ∧ t.heap[q]? = some ce ∧ ce.vm = .none ∧ st.vm.findClass E = some ce.cls ∧ st.WarmedH t.vm ∧ st.sameButNew ({ t with vm := st.vm } : State) L mc ms ∧ ∀ z ∈ L, free z.base
def vx_Q (Qc : Array Value → State → Outcome → State → Prop) (XC : String → State → State → Prop) (mc ms : Nat) (free : Addr → Prop) : Array Value → State → Outcome → State → Prop := fun a st o t =>
  (Qc a st o t ∧ ∃ L, FrameEnd st o t L mc ms ∧ ∀ q ∈ L, free q.base) ∨ ∃ q, o = .threw q ∧ vx_T XC st q t mc ms free
/-- a callee that returns or throws -/
def vx_Met (l : Launch) (y : MethodName) (ws : List Cond) (rm : Room) (Pc : Array Value → State → Prop) (Qc : Array Value → State → Outcome → State → Prop) (XC : String → State → State → Prop) (mc ms : Nat) (free : Addr → Prop) : Prop :=
  MetFree l y (headSpec ws rm) Pc (fun _ _ _ _ _ => True) (vx_Q Qc XC mc ms free)
def vx_Post (XC : String → State → State → Prop) (mc ms : Nat) (free : Addr → Prop) : Pt → Array Value → Addr → Pt → Prop := fun A a q B =>
  ∃ (g : JFrame) (mk : MethodId) (t : State) (L : List Loc) (E : String) (ce : Cell), B.U.heap = t.heap ∧ B.U.vm = t.vm ∧ XC E (A.U.calling g mk a) t ∧ t.heap[q]? = some ce ∧ ce.vm = .none ∧ A.U.vm.findClass E = some ce.cls ∧ B.locs = A.locs ++ L ∧ (∀ z ∈ L, free z.base) ∧ B.cells = A.cells + mc ∧ B.slots = A.slots + ms
def vx_Back (l : Launch) (R : Room) (p : Program) (e : Env) (below : List Frame) (s : State) (sargs : Array Value) (y : MethodName) (len W9 : Nat)
    (Pre : Pt → Array Value → Prop) (Post : Pt → Array Value → Option Value → Pt → Prop) (PostX : Pt → Array Value → Addr → Pt → Prop) : Prop :=
  ∀ (m : MethodId) (meth : Method) (c : Code) (A : Pt) (g : JFrame) (ig : Instr) (mk : MethodId) (a : Array Value),
    Stand p l e R s m sargs below meth c A.U A.locs A.cells A.slots → g.method = m → g.locals.size = c.maxLocals → decode c.code g.pc = .ok (ig, len) →
    2 * g.monitorRoom + (g.stack.map fun v => v.category).sum ≤ W9 → A.U.methodNamed? y = some mk → Pre A a →
    (∃ (v : Option Value) (B : Pt), Stand p l e R s m sargs below meth c B.U B.locs B.cells B.slots ∧ Post A a v B ∧
      Steps p.tables e below (doInvoke e (A.U.setTop g) [] mk a).1 (B.U.setTop { g with pc := g.pc + len, stack := v.toList ++ g.stack })) ∨
    (∃ (q : Addr) (B : Pt), Stand p l e R s m sargs below meth c B.U B.locs B.cells B.slots ∧ PostX A a q B ∧
      Steps p.tables e below (doInvoke e (A.U.setTop g) [] mk a).1 ((B.U.setTop g).pushFrame (.throwing q)))
section Payer
variable {l : Launch} {R : Room} {p : Program} {e : Env} {below : List Frame} {s : State} {sargs : Array Value} {y : MethodName} {len W9 : Nat}
theorem vx_back {ws : List Cond} {rm : Room} {Pc : Array Value → State → Prop} {Qc : Array Value → State → Outcome → State → Prop} {XC : String → State → State → Prop} {mc ms : Nat} {free : Addr → Prop} {bytes : ByteArray} {maxL : Nat} {ret : Option FieldType}
    (hM : vx_Met l y ws rm Pc Qc XC mc ms free) (hblind : FrameBlind Pc) (hrc : rm.cells = mc) (hrs : rm.slots = ms)
    (hframes : rm.frames + 1 ≤ R.frames) (hlocals : W9 + (maxL + 11) + rm.locals ≤ R.locals)
    (hws : ∀ w ∈ ws, ∀ a' U, s.WarmedH U.vm → w.before a' U = true) (hcode : Cond.code y bytes maxL ret ∈ ws) (hinit : ∀ a' U, s.WarmedH U.vm → (Cond.initialized y.cls).before a' U = true) :
    vx_Back l R p e below s sargs y len W9 (PreOf R mc ms Pc) (PostOf Qc mc ms free) (vx_Post XC mc ms free) := by
  intro m meth c A g ig mk a X hg hsize hdg hW hn hp
  have h1 : (headSpec ws rm).pre.before a A.U = true := atoms_intro fun w hw => hws w hw _ _ X.warmed
  have h2 : (Cond.code y bytes maxL ret).before a A.U = true := hws _ hcode _ _ X.warmed
  have h3 : (Cond.initialized y.cls).before a A.U = true := hinit _ _ X.warmed
  have h4 : A.cells + (headSpec ws rm).room.cells ≤ R.cells := by rw [show (headSpec ws rm).room.cells = mc from hrc]; exact hp.1
  have h5 : A.slots + (headSpec ws rm).room.slots ≤ R.slots := by rw [show (headSpec ws rm).room.slots = ms from hrs]; exact hp.2.1
  have hPc : Pc a (A.U.calling g mk a) := hblind _ _ _ _ hp.2.2
  obtain ⟨U, Ls, c0, s0⟩ := A
  dsimp only [Pt.U, Pt.locs, Pt.cells, Pt.slots] at h1 h2 h3 h4 h5 X hn hPc ⊢
  obtain ⟨methY, cY, hmY, hcY, -, hlY, -, -, -, -⟩ := Cond.code_spec hn h2
  obtain ⟨kY, hkY, -⟩ := className_of_methodNamed hn
  have hinitY : kY.init = .initialized := Cond.initialized_spec (findClass_of_methodNamed hn) hkY h3
  have h : At U g.method c below := by rw [hg]; exact X.here
  have hlocals9 : W9 + (maxL + 11) + (headSpec ws rm).room.locals ≤ R.locals := hlocals
  have happ : (headSpec ws rm).appliesLoose y e.platform (U.calling g mk a) = true :=
    Spec.appliesLoose_calling (g := g) h hdg hn hkY hinitY
      (X.room_calling (g := g) (R' := (headSpec ws rm).room) hsize hmY hcY hframes (by rw [hlY]; omega) h4 h5) h1
  obtain ⟨mid, hmid⟩ := h.above
  have hfr : (U.setTop g).frames = (.java g :: mid) ++ below := by rw [State.frames_setTop' g h.top, hmid]; rfl
  obtain ⟨o, s₂, hsteps, -, hend, hq⟩ := Steps.callFree hM p X.admits X.cas X.clock (acts := []) hfr happ hPc trivial
  have hq' : vx_Q Qc XC mc ms free a (U.calling g mk a) o s₂ := hq
  rw [State.frames_setTop' g h.top] at hend
  obtain ⟨g₀, hg0⟩ := Option.isSome_iff_exists.mp h.top
  obtain ⟨r, hr⟩ := State.topJava?_eq_some.mp hg0
  have hr' : (({ U with heap := s₂.heap, slotsUsed := s₂.slotsUsed } : State).setVm s₂.vm).frames = .java g₀ :: r := hr
  rcases hq' with ⟨hqc, L, hfe, hL⟩ | ⟨q, rfl, E, ce, L, hx, hce, hcv, hcl, hW₂, hsm, hL⟩
  · obtain ⟨⟨v, rfl⟩, hW₂, e2, q2, q3, q4, q5, q6⟩ := id hfe
    have e3 : s₂ = ({ (U.calling g mk a).setFrames s₂.frames with heap := s₂.heap, slotsUsed := s₂.slotsUsed } : State).setVm s₂.vm := by
      have : s₂ = ({ s₂ with vm := (U.calling g mk a).vm } : State).setVm s₂.vm := rfl
      rw [e2] at this
      exact this
    obtain ⟨c₂, i₂, len₂, hc₂, hd₂, hf₂⟩ := hend
    have hW' : U.WarmedH s₂.vm := hW₂
    have hcc : c₂ = c := by
      have h1 : s₂.code? g.method = U.code? g.method := by
        rw [State.code?_eq, State.code?_eq, hW'.alike.method?]
      exact Option.some.inj (hc₂.symm.trans (h1.trans h.code))
    subst hcc
    have hlen : len₂ = len := by rw [hdg] at hd₂; cases hd₂; rfl
    subst hlen
    have hs₂ : s₂ = (({ U with heap := s₂.heap, slotsUsed := s₂.slotsUsed } : State).setVm s₂.vm).setTop { g with pc := g.pc + len₂, stack := v.toList ++ g.stack } := by
      refine e3.trans ?_
      rw [hf₂, State.calling_eq h.top, State.setFrames_setFrames, State.setTop_of_frames _ hr', hr]
      rfl
    have hsame : U.sameButNew ({ U with heap := s₂.heap, slotsUsed := s₂.slotsUsed } : State) L mc ms := by
      refine ⟨?_, q2, q3, q4, q5, q6⟩
      obtain ⟨t, ht, -⟩ := State.frames_cons hr
      show ({ U with heap := s₂.heap, slotsUsed := s₂.slotsUsed } : State) = { U.setFrames U.frames with heap := s₂.heap, slotsUsed := s₂.slotsUsed }
      rw [State.setFrames_self ht]
    subst hg
    refine Or.inl ⟨v, ⟨(({ U with heap := s₂.heap, slotsUsed := s₂.slotsUsed } : State).setVm s₂.vm), Ls ++ L, c0 + mc, s0 + ms⟩,
      ⟨X.admits, X.cas, X.clock, X.frames, X.room, X.hears, X.method, X.code, (X.here.setHeapUsed s₂.heap s₂.slotsUsed).setVm hW'.alike, X.tail, State.WarmedH.trans X.warmed hW', X.limits, X.bytes, X.same.trans (hsame.setVm s.vm)⟩,
      ⟨g, mk, s₂, L, rfl, rfl, hqc, rfl, hL, rfl, rfl⟩, ?_⟩
    show Steps p.tables e below _ ((({ U with heap := s₂.heap, slotsUsed := s₂.slotsUsed } : State).setVm s₂.vm).setTop { g with pc := g.pc + len₂, stack := v.toList ++ g.stack })
    rw [← hs₂]
    exact hsteps
  · obtain ⟨e2, q2, q3, q4, q5, q6⟩ := id hsm
    have e3 : s₂ = ({ (U.calling g mk a).setFrames s₂.frames with heap := s₂.heap, slotsUsed := s₂.slotsUsed } : State).setVm s₂.vm := by
      have : s₂ = ({ s₂ with vm := (U.calling g mk a).vm } : State).setVm s₂.vm := rfl
      rw [e2] at this
      exact this
    have hf₂ : s₂.frames = .throwing q :: .java g :: U.frames.tail := hend
    have hW' : U.WarmedH s₂.vm := hW₂
    have hs₂ : s₂ = ((({ U with heap := s₂.heap, slotsUsed := s₂.slotsUsed } : State).setVm s₂.vm).setTop g).pushFrame (.throwing q) := by
      refine e3.trans ?_
      rw [hf₂, State.calling_eq h.top, State.setFrames_setFrames, State.pushFrame, State.frames_setTop _ hr', State.setTop_of_frames _ hr', State.setFrames_setFrames, hr]
      rfl
    have hsame : U.sameButNew ({ U with heap := s₂.heap, slotsUsed := s₂.slotsUsed } : State) L mc ms := by
      refine ⟨?_, q2, q3, q4, q5, q6⟩
      obtain ⟨t, ht, -⟩ := State.frames_cons hr
      show ({ U with heap := s₂.heap, slotsUsed := s₂.slotsUsed } : State) = { U.setFrames U.frames with heap := s₂.heap, slotsUsed := s₂.slotsUsed }
      rw [State.setFrames_self ht]
    subst hg
    refine Or.inr ⟨q, ⟨(({ U with heap := s₂.heap, slotsUsed := s₂.slotsUsed } : State).setVm s₂.vm), Ls ++ L, c0 + mc, s0 + ms⟩,
      ⟨X.admits, X.cas, X.clock, X.frames, X.room, X.hears, X.method, X.code, (X.here.setHeapUsed s₂.heap s₂.slotsUsed).setVm hW'.alike, X.tail, State.WarmedH.trans X.warmed hW', X.limits, X.bytes, X.same.trans (hsame.setVm s.vm)⟩,
      ⟨g, mk, s₂, L, E, ce, rfl, rfl, hx, hce, hcv, hcl, rfl, hL, rfl, rfl⟩, ?_⟩
    show Steps p.tables e below _ (((({ U with heap := s₂.heap, slotsUsed := s₂.slotsUsed } : State).setVm s₂.vm).setTop g).pushFrame (.throwing q))
    rw [← hs₂]
    exact hsteps
end Payer
section Calls
variable {p : Program} {l : Launch} {e : Env} {R : Room} {s : State} {m : MethodId} {args : Array Value} {below : List Frame} {meth : Method} {c : Code} {T : State} {locs : List Loc} {cells slots : Nat}
theorem vx_callV (X : Stand p l e R s m args below meth c T locs cells slots) (hexec : p.tables.exec = Jvm.exec) {own C : String} {index : Nat} {y : MethodName} {bytes : ByteArray} {maxL : Nat} {ret : Option FieldType}
    (hown : s.vm.findClass own = some m.cls) (hlink : (Cond.methodLink own index y).before args s = true) (hinst : (Cond.instanceMethod y).before args s = true) (hsel : (Cond.selects C y y).before args s = true)
    (hcode : (Cond.code y bytes maxL ret).before args s = true) (hy : y.cls ≠ "java/lang/invoke/MethodHandle" ∧ y.cls ≠ "java/lang/invoke/VarHandle")
    {W9 : Nat} {Pre : Pt → Array Value → Prop} {Post : Pt → Array Value → Option Value → Pt → Prop} {PostX : Pt → Array Value → Addr → Pt → Prop} (hK : vx_Back l R p e below s args y 3 W9 Pre Post PostX)
    {b : Addr} {cellB : Cell} (hcell : T.heap[b]? = some cellB) (hobj : cellB.vm.isStatics = false) (hcls : s.vm.findClass C = some cellB.cls)
    {g : JFrame} (hg : g.method = m) (hsize : g.locals.size = c.maxLocals) {argsL rest : List Value} (hlen : ∀ sig, parseMethodDescriptor y.desc = some sig → argsL.length = sig.parameters.length)
    (hstack : g.stack = argsL.reverse ++ .ref b :: rest) (hW : 2 * g.monitorRoom + (rest.map fun v => v.category).sum ≤ W9) (hdg : decode c.code g.pc = .ok (.invokevirtual index, 3))
    (hpre : ∀ vm₁, s.WarmedH vm₁ → Pre ⟨T.setVm vm₁, locs, cells, slots⟩ (Value.ref b :: argsL).toArray) :
    (∃ (v : Option Value) (vm₁ : Vm) (B : Pt), s.WarmedH vm₁ ∧ Stand p l e R s m args below meth c B.U B.locs B.cells B.slots ∧ Post ⟨T.setVm vm₁, locs, cells, slots⟩ (Value.ref b :: argsL).toArray v B ∧
      ∀ target, Steps p.tables e below (B.U.setTop { g with pc := g.pc + 3, stack := v.toList ++ rest }) target → Steps p.tables e below (T.setTop g) target) ∨
    (∃ (q : Addr) (vm₁ : Vm) (B : Pt), s.WarmedH vm₁ ∧ Stand p l e R s m args below meth c B.U B.locs B.cells B.slots ∧ PostX ⟨T.setVm vm₁, locs, cells, slots⟩ (Value.ref b :: argsL).toArray q B ∧
      Steps p.tables e below (T.setTop g) ((B.U.setTop { g with stack := rest }).pushFrame (.throwing q))) := by
  obtain ⟨mk, methM, hnamed, hmethM, hstM, habM⟩ := Cond.instanceMethod_spec hinst
  obtain ⟨methM', cM, hmethM', -, -, -, -, -, -, hsigM⟩ := Cond.code_spec hnamed hcode
  cases hmethM.symm.trans hmethM'
  obtain ⟨c2, r2, m2, q1, q2, q3, q4, kP, hkP, hkPi⟩ := Cond.selects_spec hsel
  cases hcls.symm.trans q1
  cases (State.methodFound?_of_named hnamed hy).symm.trans q2
  cases hnamed.symm.trans q3
  have hselP : selectMethod e.platform s.vm cellB.cls mk = .method mk := by rw [Launch.admits_selectMethod X.admits]; exact q4
  obtain ⟨vm₁, X₁, hstep₁⟩ := X.invokevirtual hexec hown hlink hnamed hmethM hstM hkP hkPi hy (a := b) (cell := cellB) hcell
    (fun z h => by rw [h] at hobj; cases hobj) hselP hmethM habM hkP hkPi (g := g) hg (argsL := argsL) (rest := rest) (hlen _ hsigM) hstack hdg
  rcases hK m meth c ⟨T.setVm vm₁, locs, cells, slots⟩ { g with stack := rest } (.invokevirtual index) mk (Value.ref b :: argsL).toArray X₁ hg hsize hdg hW (X₁.named hnamed) (hpre vm₁ X₁.warmed) with ⟨v, B, X', hpost, hsteps⟩ | ⟨q, B, X', hpost, hsteps⟩
  · exact Or.inl ⟨v, vm₁, B, X₁.warmed, X', hpost, fun target h => hstep₁ _ fun acts => by rw [doInvoke_state]; exact hsteps.trans h⟩
  · exact Or.inr ⟨q, vm₁, B, X₁.warmed, X', hpost, hstep₁ _ fun acts => by rw [doInvoke_state]; exact hsteps⟩
theorem vx_callS (X : Stand p l e R s m args below meth c T locs cells slots) (hexec : p.tables.exec = Jvm.exec) {own : String} {index : Nat} {y : MethodName} {bytes : ByteArray} {maxL : Nat} {ret : Option FieldType}
    (hown : s.vm.findClass own = some m.cls) (hlink : (Cond.methodLink own index y).before args s = true) (hstat : (Cond.static y).before args s = true) (hinit : (Cond.initialized y.cls).before args s = true)
    (hcode : (Cond.code y bytes maxL ret).before args s = true) (hy : y.cls ≠ "java/lang/invoke/MethodHandle" ∧ y.cls ≠ "java/lang/invoke/VarHandle")
    {W9 : Nat} {Pre : Pt → Array Value → Prop} {Post : Pt → Array Value → Option Value → Pt → Prop} {PostX : Pt → Array Value → Addr → Pt → Prop} (hK : vx_Back l R p e below s args y 3 W9 Pre Post PostX)
    {g : JFrame} (hg : g.method = m) (hsize : g.locals.size = c.maxLocals) {argsL rest : List Value} (hlen : ∀ sig, parseMethodDescriptor y.desc = some sig → argsL.length = sig.parameters.length)
    (hstack : g.stack = argsL.reverse ++ rest) (hW : 2 * g.monitorRoom + (rest.map fun v => v.category).sum ≤ W9) (hdg : decode c.code g.pc = .ok (.invokestatic index, 3))
    (hpre : ∀ vm₁, s.WarmedH vm₁ → Pre ⟨T.setVm vm₁, locs, cells, slots⟩ argsL.toArray) :
    (∃ (v : Option Value) (vm₁ : Vm) (B : Pt), s.WarmedH vm₁ ∧ Stand p l e R s m args below meth c B.U B.locs B.cells B.slots ∧ Post ⟨T.setVm vm₁, locs, cells, slots⟩ argsL.toArray v B ∧
      ∀ target, Steps p.tables e below (B.U.setTop { g with pc := g.pc + 3, stack := v.toList ++ rest }) target → Steps p.tables e below (T.setTop g) target) ∨
    (∃ (q : Addr) (vm₁ : Vm) (B : Pt), s.WarmedH vm₁ ∧ Stand p l e R s m args below meth c B.U B.locs B.cells B.slots ∧ PostX ⟨T.setVm vm₁, locs, cells, slots⟩ argsL.toArray q B ∧
      Steps p.tables e below (T.setTop g) ((B.U.setTop { g with stack := rest }).pushFrame (.throwing q))) := by
  obtain ⟨mk, hnamed⟩ := Cond.code_named hcode
  obtain ⟨methM, cM, hmethM, -, -, -, -, -, -, hsigM⟩ := Cond.code_spec hnamed hcode
  have hstatic : methM.isStatic = true := Cond.static_spec hnamed hmethM hstat
  obtain ⟨kP, hkP, -⟩ := className_of_methodNamed hnamed
  have hinitP : kP.init = .initialized := Cond.initialized_spec (findClass_of_methodNamed hnamed) hkP hinit
  obtain ⟨vm₁, X₁, hstep₁⟩ := X.invokestatic hexec hown hlink hnamed hmethM hstatic hkP hinitP hy (g := g) hg (argsL := argsL) (rest := rest) (hlen _ hsigM) hstack hdg
  rcases hK m meth c ⟨T.setVm vm₁, locs, cells, slots⟩ { g with stack := rest } (.invokestatic index) mk argsL.toArray X₁ hg hsize hdg hW (X₁.named hnamed) (hpre vm₁ X₁.warmed) with ⟨v, B, X', hpost, hsteps⟩ | ⟨q, B, X', hpost, hsteps⟩
  · exact Or.inl ⟨v, vm₁, B, X₁.warmed, X', hpost, fun target h => hstep₁ _ fun acts => by rw [doInvoke_state]; exact hsteps.trans h⟩
  · exact Or.inr ⟨q, vm₁, B, X₁.warmed, X', hpost, hstep₁ _ fun acts => by rw [doInvoke_state]; exact hsteps⟩
end Calls
theorem vx_cls {s : State} {T : State} {vm₁ : Vm} {E : String} {k : ClassId} (hW : s.WarmedH vm₁) (h : (T.setVm vm₁).vm.findClass E = some k) : s.vm.findClass E = some k := by
  have h1 : vm₁.findClass E = some k := h
  rw [hW.alike.findClass] at h1
  exact h1
/-- the method's frame g, with q thrown over it -/
def vx_W (p : Program) (l : Launch) (e : Env) (R : Room) (s : State) (m : MethodId) (args : Array Value) (below : List Frame) (meth : Method) (c : Code) (H : Heap) (locs : List Loc) (cells slots : Nat) (Q : State → Prop) (g : JFrame) (q : Addr) : Prop :=
  ∀ T : State, T.heap = H → Stand p l e R s m args below meth c T locs cells slots → ∃ t, Steps p.tables e below ((T.setTop g).pushFrame (.throwing q)) t ∧ Q t
def vx_Run (p : Program) (l : Launch) (e : Env) (R : Room) (s : State) (m : MethodId) (args : Array Value) (below : List Frame) (meth : Method) (c : Code) (H : Heap) (locs : List Loc) (cells slots mc ms : Nat) (g : JFrame) (rest : List Value) (Qa : State → Outcome → State → Prop) (XC : String → State → State → Prop) (free : Addr → Prop) : Prop :=
  ∀ T : State, T.heap = H → Stand p l e R s m args below meth c T locs cells slots →
    (∃ (v : Option Value) (st₀ t T' : State) (L : List Loc), st₀.heap = H ∧ Stand p l e R s m args below meth c T' (locs ++ L) (cells + mc) (slots + ms) ∧ (∀ q ∈ L, free q.base) ∧ T'.heap = t.heap ∧ T'.vm = t.vm ∧ Qa st₀ (.returned v) t ∧
      Goes p e below T g T' { g with pc := g.pc + 3, stack := v.toList ++ rest }) ∨
    (∃ (q : Addr) (st₀ t T' : State) (L : List Loc) (E : String) (ce : Cell), st₀.heap = H ∧ Stand p l e R s m args below meth c T' (locs ++ L) (cells + mc) (slots + ms) ∧ (∀ z ∈ L, free z.base) ∧ T'.heap = t.heap ∧ T'.vm = t.vm ∧ XC E st₀ t ∧ t.heap[q]? = some ce ∧ ce.vm = .none ∧ s.vm.findClass E = some ce.cls ∧
      Steps p.tables e below (T.setTop g) ((T'.setTop { g with stack := rest }).pushFrame (.throwing q)))
def vx_X {S : Type} (px : S → Prop) (B : String → S → State → Prop) (A : Nat → Prop) : String → State → State → Prop := fun E st t => ∃ u : S, px u ∧ B E u t ∧ va_F A st t
section Runs
variable {p : Program} {l : Launch} {e : Env} {R : Room} {s : State} {m : MethodId} {args : Array Value} {below : List Frame} {meth : Method} {c : Code} {H : Heap} {locs : List Loc} {cells slots : Nat}
variable {y : MethodName} {bytes cc : ByteArray} {maxL nL mc ms n index : Nat} {ret : Option FieldType} {ws : List Cond} {rm : Room} {Pc : Array Value → State → Prop} {Qc : Array Value → State → Outcome → State → Prop} {XC : String → State → State → Prop} {free : Addr → Prop} {Ts : List Cond} {own C : String} {b : Addr} {As rest : List Value} {g : JFrame}
theorem vx_callBack (cb : CallB R s args own index y bytes maxL ret ws rm mc ms n) (hM : vx_Met l y ws rm Pc Qc XC mc ms free) (hbl : FrameBlind Pc) : vx_Back l R p e below s args y 3 8 (PreOf R mc ms Pc) (PostOf Qc mc ms free) (vx_Post XC mc ms free) := by
  obtain ⟨hrc, hrs, hfr, hlo, hws, hcw, -, hini, -⟩ := cb
  exact vx_back (bytes := bytes) (maxL := maxL) (ret := ret) hM hbl hrc hrs hfr hlo hws hcw (fun a' U hW => word_at hW (Or.inl (by first | rfl | simp [Cond.onTables, Cond.keeps, Cond.steady])) hini)
theorem vx_runV (S : CallFix p m c cc nL s args Ts own) (hM : vx_Met l y ws rm Pc Qc XC mc ms free) (cw : CallW R s args own C index y bytes maxL ret ws rm mc ms n) (hp : PreV s H C b Pc As)
    (hg : g.method = m) (hn : As.length = n) (hsize : g.locals.size = nL) (hstack : g.stack = As.reverse ++ .ref b :: rest) (hW : 2 * g.monitorRoom + (rest.map fun v => v.category).sum ≤ 8) (hdg : decode cc g.pc = .ok (.invokevirtual index, 3)) (hf : cells + mc ≤ R.cells ∧ slots + ms ≤ R.slots) :
    vx_Run p l e R s m args below meth c H locs cells slots mc ms g rest (Qc (Value.ref b :: As).toArray) XC free := by
  have hK : vx_Back l R p e below s args y 3 8 (PreOf R mc ms Pc) (PostOf Qc mc ms free) (vx_Post XC mc ms free) := vx_callBack cw.1 hM hp.1
  obtain ⟨⟨-, -, -, -, -, -, hcode, -, hy, hlen, hl⟩, hin, hse⟩ := cw
  obtain ⟨hx, hb, hml, ho, -⟩ := S
  obtain ⟨-, ⟨cellB, hcB, hoB, hclB⟩, hPc⟩ := hp
  intro T hT X
  rcases vx_callV X hx (C := C) (bytes := bytes) (maxL := maxL) (ret := ret) ho hl hin hse hcode hy hK (by rw [hT]; exact hcB) hoB hclB hg (hsize.trans hml.symm) (argsL := As) (rest := rest) (fun sig h => hn.trans (hlen sig h)) hstack hW (by rw [hb]; exact hdg)
    (fun vm₁ hW₁ => ⟨hf.1, hf.2, hPc (T.setVm vm₁) hT hW₁⟩) with ⟨v, vm₁, ⟨U', l2, c2, s2⟩, hW₁, X', ⟨g', mk, t, L, e1, e2, hq, h1, hL, h2, h3⟩, st⟩ | ⟨q, vm₁, ⟨U', l2, c2, s2⟩, hW₁, X', ⟨g', mk, t, L, E, ce, e1, e2, hq, hce, hcv, hcl, h1, hL, h2, h3⟩, st⟩
  · dsimp only [Pt.U, Pt.locs, Pt.cells, Pt.slots] at X' e1 e2 h1 h2 h3 st
    subst h1; subst h2; subst h3
    exact Or.inl ⟨v, (T.setVm vm₁).calling g' mk (Value.ref b :: As).toArray, t, U', L, hT, X', hL, e1, e2, hq, st⟩
  · dsimp only [Pt.U, Pt.locs, Pt.cells, Pt.slots] at X' e1 e2 h1 h2 h3 st hcl
    subst h1; subst h2; subst h3
    exact Or.inr ⟨q, (T.setVm vm₁).calling g' mk (Value.ref b :: As).toArray, t, U', L, E, ce, hT, X', hL, e1, e2, hq, hce, hcv, vx_cls hW₁ hcl, st⟩
theorem vx_runS (S : CallFix p m c cc nL s args Ts own) (hM : vx_Met l y ws rm Pc Qc XC mc ms free) (cw : CallB R s args own index y bytes maxL ret ws rm mc ms n ∧ (Cond.static y).before args s = true) (hp : PreS s H Pc As)
    (hg : g.method = m) (hn : As.length = n) (hsize : g.locals.size = nL) (hstack : g.stack = As.reverse ++ rest) (hW : 2 * g.monitorRoom + (rest.map fun v => v.category).sum ≤ 8) (hdg : decode cc g.pc = .ok (.invokestatic index, 3)) (hf : cells + mc ≤ R.cells ∧ slots + ms ≤ R.slots) :
    vx_Run p l e R s m args below meth c H locs cells slots mc ms g rest (Qc As.toArray) XC free := by
  have hK : vx_Back l R p e below s args y 3 8 (PreOf R mc ms Pc) (PostOf Qc mc ms free) (vx_Post XC mc ms free) := vx_callBack cw.1 hM hp.1
  obtain ⟨⟨-, -, -, -, -, -, hcode, hini, hy, hlen, hl⟩, hstt⟩ := cw
  obtain ⟨hx, hb, hml, ho, -⟩ := S
  intro T hT X
  rcases vx_callS X hx (bytes := bytes) (maxL := maxL) (ret := ret) ho hl hstt hini hcode hy hK hg (hsize.trans hml.symm) (argsL := As) (rest := rest) (fun sig h => hn.trans (hlen sig h)) hstack hW (by rw [hb]; exact hdg)
    (fun vm₁ hW₁ => ⟨hf.1, hf.2, hp.2 (T.setVm vm₁) hT hW₁⟩) with ⟨v, vm₁, ⟨U', l2, c2, s2⟩, hW₁, X', ⟨g', mk, t, L, e1, e2, hq, h1, hL, h2, h3⟩, st⟩ | ⟨q, vm₁, ⟨U', l2, c2, s2⟩, hW₁, X', ⟨g', mk, t, L, E, ce, e1, e2, hq, hce, hcv, hcl, h1, hL, h2, h3⟩, st⟩
  · dsimp only [Pt.U, Pt.locs, Pt.cells, Pt.slots] at X' e1 e2 h1 h2 h3 st
    subst h1; subst h2; subst h3
    exact Or.inl ⟨v, (T.setVm vm₁).calling g' mk As.toArray, t, U', L, hT, X', hL, e1, e2, hq, st⟩
  · dsimp only [Pt.U, Pt.locs, Pt.cells, Pt.slots] at X' e1 e2 h1 h2 h3 st hcl
    subst h1; subst h2; subst h3
    exact Or.inr ⟨q, (T.setVm vm₁).calling g' mk As.toArray, t, U', L, E, ce, hT, X', hL, e1, e2, hq, hce, hcv, vx_cls hW₁ hcl, st⟩
end Runs
section Rows
variable {p : Program} {l : Launch} {e : Env} {R : Room} {s : State} {m : MethodId} {args : Array Value} {below : List Frame} {meth : Method} {c : Code} {H : Heap} {locs : List Loc} {cells slots : Nat} {Q : State → Prop}
variable {mc ms : Nat} {free : Addr → Prop} {A0 A1 : Nat → Prop} {H0 : Heap} {a : Array Value} {pc : Nat} {ls : Array Slot} {st0 rest : List Value}
theorem vx_keep {st₀ t T' : State} {L : List Loc} (h0 : st₀.heap = H) (e1 : T'.heap = t.heap) (hS : va_S A0 H0 H locs) (hA : ∀ q, q < H.size → A1 q → A0 q) (hf : ∀ q, free q → A0 q) (hL : ∀ q ∈ L, free q.base) (hF : va_F A1 st₀ t) :
    H.size ≤ T'.heap.size ∧ (∀ q : Nat, q < H.size → ¬ A1 q → T'.heap[q]? = H[q]?) ∧ va_S A0 H0 T'.heap (locs ++ L) := by
  obtain ⟨hz, hk⟩ := hF
  rw [h0] at hz hk
  exact ⟨by rw [e1]; exact hz, fun q h1 h2 => by rw [e1]; exact hk q h1 h2,
    ⟨Nat.le_trans hS.1 (by rw [e1]; exact hz), fun q h1 h2 => by rw [e1, hk q (Nat.lt_of_lt_of_le h1 hS.1) (fun z => h2 (hA q (Nat.lt_of_lt_of_le h1 hS.1) z))]; exact hS.2.1 q h1 h2, fun q hq => by
      rcases List.mem_append.mp hq with h | h
      · exact hS.2.2 q h
      · exact hf _ (hL q h)⟩⟩
theorem vx_calli {S SX : Type} {post : Int32 → S → Prop} {px : SX → Prop} {B : S → State → Prop} {BX : String → SX → State → Prop} {AX : Nat → Prop} (hr : vx_Run p l e R s m args below meth c H locs cells slots mc ms (F0 m pc ls st0) rest (va_Qi post B A1 a) (vx_X px BX AX) free) (hS : va_S A0 H0 H locs) (hA : ∀ q, q < H.size → A1 q → A0 q) (hf : ∀ q, free q → A0 q) (hAX : ∀ q, q < H.size → AX q → A0 q)
    (kx : ∀ (E : String) (ce : Cell) (q9 : Addr) (u : SX) (t : State) (H1 : Heap) (locs1 : List Loc), t.heap = H1 → s.vm.Alike t.vm → px u → BX E u t → H.size ≤ H1.size → (∀ q : Nat, q < H.size → ¬ AX q → H1[q]? = H[q]?) → va_S A0 H0 H1 locs1 → H1[q9]? = some ce → ce.vm = .none → s.vm.findClass E = some ce.cls → vx_W p l e R s m args below meth c H1 locs1 (cells + mc) (slots + ms) Q (F0 m pc ls rest) q9)
    (kk : ∀ (r : Int32) (u : S) (t : State) (H1 : Heap) (locs1 : List Loc), t.heap = H1 → s.vm.Alike t.vm → post r u → B u t → H.size ≤ H1.size → (∀ q : Nat, q < H.size → ¬ A1 q → H1[q]? = H[q]?) → va_S A0 H0 H1 locs1 → W p l e R s m args below meth c H1 locs1 (cells + mc) (slots + ms) Q (F0 m (pc + 3) ls (.int r :: rest))) : W p l e R s m args below meth c H locs cells slots Q (F0 m pc ls st0) := by
  intro T hT X
  rcases hr T hT X with ⟨v, st₀, t, T', L, h0, X', hL, e1, e2, ⟨⟨r, u, hv, hp, hb⟩, hF⟩, st⟩ | ⟨q, st₀, t, T', L, E, ce, h0, X', hL, e1, e2, ⟨u, hp, hb, hF⟩, hce, hcv, hcl, st⟩
  · cases hv
    obtain ⟨k1, k2, k3⟩ := vx_keep h0 e1 hS hA hf hL hF
    obtain ⟨t2, a1, b1⟩ := kk r u t T'.heap (locs ++ L) e1.symm (by rw [← e2]; exact X'.warmed.alike) hp hb k1 k2 k3 T' rfl X'
    exact ⟨t2, st t2 a1, b1⟩
  · obtain ⟨k1, k2, k3⟩ := vx_keep h0 e1 hS hAX hf hL hF
    obtain ⟨t2, a1, b1⟩ := kx E ce q u t T'.heap (locs ++ L) e1.symm (by rw [← e2]; exact X'.warmed.alike) hp hb k1 k2 k3 (by rw [e1]; exact hce) hcv hcl T' rfl X'
    exact ⟨t2, st.trans a1, b1⟩
theorem vx_calll {S SX : Type} {post : Int64 → S → Prop} {px : SX → Prop} {B : S → State → Prop} {BX : String → SX → State → Prop} {AX : Nat → Prop} (hr : vx_Run p l e R s m args below meth c H locs cells slots mc ms (F0 m pc ls st0) rest (va_Ql post B A1 a) (vx_X px BX AX) free) (hS : va_S A0 H0 H locs) (hA : ∀ q, q < H.size → A1 q → A0 q) (hf : ∀ q, free q → A0 q) (hAX : ∀ q, q < H.size → AX q → A0 q)
    (kx : ∀ (E : String) (ce : Cell) (q9 : Addr) (u : SX) (t : State) (H1 : Heap) (locs1 : List Loc), t.heap = H1 → s.vm.Alike t.vm → px u → BX E u t → H.size ≤ H1.size → (∀ q : Nat, q < H.size → ¬ AX q → H1[q]? = H[q]?) → va_S A0 H0 H1 locs1 → H1[q9]? = some ce → ce.vm = .none → s.vm.findClass E = some ce.cls → vx_W p l e R s m args below meth c H1 locs1 (cells + mc) (slots + ms) Q (F0 m pc ls rest) q9)
    (kk : ∀ (r : Int64) (u : S) (t : State) (H1 : Heap) (locs1 : List Loc), t.heap = H1 → s.vm.Alike t.vm → post r u → B u t → H.size ≤ H1.size → (∀ q : Nat, q < H.size → ¬ A1 q → H1[q]? = H[q]?) → va_S A0 H0 H1 locs1 → W p l e R s m args below meth c H1 locs1 (cells + mc) (slots + ms) Q (F0 m (pc + 3) ls (.long r :: rest))) : W p l e R s m args below meth c H locs cells slots Q (F0 m pc ls st0) := by
  intro T hT X
  rcases hr T hT X with ⟨v, st₀, t, T', L, h0, X', hL, e1, e2, ⟨⟨r, u, hv, hp, hb⟩, hF⟩, st⟩ | ⟨q, st₀, t, T', L, E, ce, h0, X', hL, e1, e2, ⟨u, hp, hb, hF⟩, hce, hcv, hcl, st⟩
  · cases hv
    obtain ⟨k1, k2, k3⟩ := vx_keep h0 e1 hS hA hf hL hF
    obtain ⟨t2, a1, b1⟩ := kk r u t T'.heap (locs ++ L) e1.symm (by rw [← e2]; exact X'.warmed.alike) hp hb k1 k2 k3 T' rfl X'
    exact ⟨t2, st t2 a1, b1⟩
  · obtain ⟨k1, k2, k3⟩ := vx_keep h0 e1 hS hAX hf hL hF
    obtain ⟨t2, a1, b1⟩ := kx E ce q u t T'.heap (locs ++ L) e1.symm (by rw [← e2]; exact X'.warmed.alike) hp hb k1 k2 k3 (by rw [e1]; exact hce) hcv hcl T' rfl X'
    exact ⟨t2, st.trans a1, b1⟩
theorem vx_callf {S SX : Type} {post : UInt32 → S → Prop} {px : SX → Prop} {B : S → State → Prop} {BX : String → SX → State → Prop} {AX : Nat → Prop} (hr : vx_Run p l e R s m args below meth c H locs cells slots mc ms (F0 m pc ls st0) rest (va_Qf post B A1 a) (vx_X px BX AX) free) (hS : va_S A0 H0 H locs) (hA : ∀ q, q < H.size → A1 q → A0 q) (hf : ∀ q, free q → A0 q) (hAX : ∀ q, q < H.size → AX q → A0 q)
    (kx : ∀ (E : String) (ce : Cell) (q9 : Addr) (u : SX) (t : State) (H1 : Heap) (locs1 : List Loc), t.heap = H1 → s.vm.Alike t.vm → px u → BX E u t → H.size ≤ H1.size → (∀ q : Nat, q < H.size → ¬ AX q → H1[q]? = H[q]?) → va_S A0 H0 H1 locs1 → H1[q9]? = some ce → ce.vm = .none → s.vm.findClass E = some ce.cls → vx_W p l e R s m args below meth c H1 locs1 (cells + mc) (slots + ms) Q (F0 m pc ls rest) q9)
    (kk : ∀ (r : UInt32) (u : S) (t : State) (H1 : Heap) (locs1 : List Loc), t.heap = H1 → s.vm.Alike t.vm → post r u → B u t → H.size ≤ H1.size → (∀ q : Nat, q < H.size → ¬ A1 q → H1[q]? = H[q]?) → va_S A0 H0 H1 locs1 → W p l e R s m args below meth c H1 locs1 (cells + mc) (slots + ms) Q (F0 m (pc + 3) ls (.float r :: rest))) : W p l e R s m args below meth c H locs cells slots Q (F0 m pc ls st0) := by
  intro T hT X
  rcases hr T hT X with ⟨v, st₀, t, T', L, h0, X', hL, e1, e2, ⟨⟨r, u, hv, hp, hb⟩, hF⟩, st⟩ | ⟨q, st₀, t, T', L, E, ce, h0, X', hL, e1, e2, ⟨u, hp, hb, hF⟩, hce, hcv, hcl, st⟩
  · cases hv
    obtain ⟨k1, k2, k3⟩ := vx_keep h0 e1 hS hA hf hL hF
    obtain ⟨t2, a1, b1⟩ := kk r u t T'.heap (locs ++ L) e1.symm (by rw [← e2]; exact X'.warmed.alike) hp hb k1 k2 k3 T' rfl X'
    exact ⟨t2, st t2 a1, b1⟩
  · obtain ⟨k1, k2, k3⟩ := vx_keep h0 e1 hS hAX hf hL hF
    obtain ⟨t2, a1, b1⟩ := kx E ce q u t T'.heap (locs ++ L) e1.symm (by rw [← e2]; exact X'.warmed.alike) hp hb k1 k2 k3 (by rw [e1]; exact hce) hcv hcl T' rfl X'
    exact ⟨t2, st.trans a1, b1⟩
theorem vx_calld {S SX : Type} {post : UInt64 → S → Prop} {px : SX → Prop} {B : S → State → Prop} {BX : String → SX → State → Prop} {AX : Nat → Prop} (hr : vx_Run p l e R s m args below meth c H locs cells slots mc ms (F0 m pc ls st0) rest (va_Qd post B A1 a) (vx_X px BX AX) free) (hS : va_S A0 H0 H locs) (hA : ∀ q, q < H.size → A1 q → A0 q) (hf : ∀ q, free q → A0 q) (hAX : ∀ q, q < H.size → AX q → A0 q)
    (kx : ∀ (E : String) (ce : Cell) (q9 : Addr) (u : SX) (t : State) (H1 : Heap) (locs1 : List Loc), t.heap = H1 → s.vm.Alike t.vm → px u → BX E u t → H.size ≤ H1.size → (∀ q : Nat, q < H.size → ¬ AX q → H1[q]? = H[q]?) → va_S A0 H0 H1 locs1 → H1[q9]? = some ce → ce.vm = .none → s.vm.findClass E = some ce.cls → vx_W p l e R s m args below meth c H1 locs1 (cells + mc) (slots + ms) Q (F0 m pc ls rest) q9)
    (kk : ∀ (r : UInt64) (u : S) (t : State) (H1 : Heap) (locs1 : List Loc), t.heap = H1 → s.vm.Alike t.vm → post r u → B u t → H.size ≤ H1.size → (∀ q : Nat, q < H.size → ¬ A1 q → H1[q]? = H[q]?) → va_S A0 H0 H1 locs1 → W p l e R s m args below meth c H1 locs1 (cells + mc) (slots + ms) Q (F0 m (pc + 3) ls (.double r :: rest))) : W p l e R s m args below meth c H locs cells slots Q (F0 m pc ls st0) := by
  intro T hT X
  rcases hr T hT X with ⟨v, st₀, t, T', L, h0, X', hL, e1, e2, ⟨⟨r, u, hv, hp, hb⟩, hF⟩, st⟩ | ⟨q, st₀, t, T', L, E, ce, h0, X', hL, e1, e2, ⟨u, hp, hb, hF⟩, hce, hcv, hcl, st⟩
  · cases hv
    obtain ⟨k1, k2, k3⟩ := vx_keep h0 e1 hS hA hf hL hF
    obtain ⟨t2, a1, b1⟩ := kk r u t T'.heap (locs ++ L) e1.symm (by rw [← e2]; exact X'.warmed.alike) hp hb k1 k2 k3 T' rfl X'
    exact ⟨t2, st t2 a1, b1⟩
  · obtain ⟨k1, k2, k3⟩ := vx_keep h0 e1 hS hAX hf hL hF
    obtain ⟨t2, a1, b1⟩ := kx E ce q u t T'.heap (locs ++ L) e1.symm (by rw [← e2]; exact X'.warmed.alike) hp hb k1 k2 k3 (by rw [e1]; exact hce) hcv hcl T' rfl X'
    exact ⟨t2, st.trans a1, b1⟩
theorem vx_callv {S SX : Type} {post : S → Prop} {px : SX → Prop} {B : S → State → Prop} {BX : String → SX → State → Prop} {AX : Nat → Prop} (hr : vx_Run p l e R s m args below meth c H locs cells slots mc ms (F0 m pc ls st0) rest (va_Qv post B A1 a) (vx_X px BX AX) free) (hS : va_S A0 H0 H locs) (hA : ∀ q, q < H.size → A1 q → A0 q) (hf : ∀ q, free q → A0 q) (hAX : ∀ q, q < H.size → AX q → A0 q)
    (kx : ∀ (E : String) (ce : Cell) (q9 : Addr) (u : SX) (t : State) (H1 : Heap) (locs1 : List Loc), t.heap = H1 → s.vm.Alike t.vm → px u → BX E u t → H.size ≤ H1.size → (∀ q : Nat, q < H.size → ¬ AX q → H1[q]? = H[q]?) → va_S A0 H0 H1 locs1 → H1[q9]? = some ce → ce.vm = .none → s.vm.findClass E = some ce.cls → vx_W p l e R s m args below meth c H1 locs1 (cells + mc) (slots + ms) Q (F0 m pc ls rest) q9)
    (kk : ∀ (u : S) (t : State) (H1 : Heap) (locs1 : List Loc), t.heap = H1 → s.vm.Alike t.vm → post u → B u t → H.size ≤ H1.size → (∀ q : Nat, q < H.size → ¬ A1 q → H1[q]? = H[q]?) → va_S A0 H0 H1 locs1 → W p l e R s m args below meth c H1 locs1 (cells + mc) (slots + ms) Q (F0 m (pc + 3) ls (rest))) : W p l e R s m args below meth c H locs cells slots Q (F0 m pc ls st0) := by
  intro T hT X
  rcases hr T hT X with ⟨v, st₀, t, T', L, h0, X', hL, e1, e2, ⟨⟨u, hv, hp, hb⟩, hF⟩, st⟩ | ⟨q, st₀, t, T', L, E, ce, h0, X', hL, e1, e2, ⟨u, hp, hb, hF⟩, hce, hcv, hcl, st⟩
  · cases hv
    obtain ⟨k1, k2, k3⟩ := vx_keep h0 e1 hS hA hf hL hF
    obtain ⟨t2, a1, b1⟩ := kk u t T'.heap (locs ++ L) e1.symm (by rw [← e2]; exact X'.warmed.alike) hp hb k1 k2 k3 T' rfl X'
    exact ⟨t2, st t2 a1, b1⟩
  · obtain ⟨k1, k2, k3⟩ := vx_keep h0 e1 hS hAX hf hL hF
    obtain ⟨t2, a1, b1⟩ := kx E ce q u t T'.heap (locs ++ L) e1.symm (by rw [← e2]; exact X'.warmed.alike) hp hb k1 k2 k3 (by rw [e1]; exact hce) hcv hcl T' rfl X'
    exact ⟨t2, st.trans a1, b1⟩
/-- caught by the row x of this method's table; the rows ahead don't take it -/
theorem vx_catch {own name : String} {E : String} {ce : Cell} {q : Addr} (hown : s.vm.findClass own = some m.cls) (pre : List ExceptionTableEntry) (x : ExceptionTableEntry) (suf : List ExceptionTableEntry) (hsplit : c.exceptionTable.toList = pre ++ x :: suf)
    (hpass : ∀ z ∈ pre, covers z pc = false ∨ (z.catchType ≠ 0 ∧ ∃ nm : String, (Cond.classLink own z.catchType nm).before args s = true ∧ va_Nc E nm s)) (hx : covers x pc = true) (h0 : x.catchType ≠ 0)
    (hlink : (Cond.classLink own x.catchType name).before args s = true) (hcast : (Cond.castable E name).before args s = true) (hcell : H[q]? = some ce) (hv : ce.vm = .none) (hcl : s.vm.findClass E = some ce.cls)
    (kk : W p l e R s m args below meth c H locs cells slots Q (F0 m x.handlerPc ls [.ref q])) : vx_W p l e R s m args below meth c H locs cells slots Q (F0 m pc ls rest) q := by
  intro T hT X
  have hpl : e.platform.magicAccessors = ({} : Platform).magicAccessors := by rw [X.admits.platform]
  obtain ⟨c3, c4, hc3, hc4, hasg⟩ := Cond.castable_spec hcast
  cases Option.some.inj (hc3.symm.trans hcl)
  obtain ⟨c5, hc5, hcl5⟩ := Cond.classLink_spec hown hlink e.platform hpl
  cases Option.some.inj (hc4.symm.trans hc5)
  obtain ⟨vm', X', st⟩ := X.thenCaughtThrough q (g := F0 m pc ls rest) rfl (Steps.refl _) (by rw [hT]; exact hcell) (by rw [hv]; rfl) (by obtain ⟨k9, h9, -⟩ := Vm.findClass_spec hcl; exact ⟨k9, h9⟩) pre x suf hsplit
    (fun z hz => by
      rcases hpass z hz with h | ⟨hz0, nm, hl1, hn1⟩
      · exact Or.inl h
      · obtain ⟨c6, hc6, hcl6⟩ := Cond.classLink_spec hown hl1 e.platform hpl
        obtain ⟨a8, b8, h1, h2, h3⟩ := hn1
        cases Option.some.inj (h1.symm.trans hcl)
        cases Option.some.inj (h2.symm.trans hc6)
        exact Or.inr ⟨hz0, _, hcl6, h3⟩) hx (Or.inr ⟨h0, c4, hcl5, hasg⟩)
  obtain ⟨t, a1, b1⟩ := kk (T.setVm vm') hT X'
  exact ⟨t, st.trans a1, b1⟩
end Rows
section Ends
variable {p : Program} {l : Launch} {e : Env} {R : Room} {s : State} {m : MethodId} {args : Array Value} {below : List Frame} {meth : Method} {c : Code} {H : Heap} {locs : List Loc} {cells slots : Nat} {Q : State → Prop}
variable {mc ms : Nat} {free : Addr → Prop} {A0 A1 : Nat → Prop} {H0 : Heap} {a : Array Value} {ls : Array Slot} {st0 rest : List Value}
variable {Qc : Array Value → State → Outcome → State → Prop} {XC : String → State → State → Prop}
/-- what a body that may throw owes at its end -/
def vx_MQ (below : List Frame) (Qc : Array Value → State → Outcome → State → Prop) (XC : String → State → State → Prop) (a : Array Value) (s : State) (mc ms : Nat) (free : Addr → Prop) : State → Prop := fun t =>
  ∃ o, t.status = .running ∧ Ended t below o ∧ vx_Q Qc XC mc ms free a s o t
theorem vx_ret {g : JFrame} {mc ms : Nat} (k : W p l e R s m args below meth c H locs cells slots (MQ below Qc args s mc ms free) g) : W p l e R s m args below meth c H locs cells slots (vx_MQ below Qc XC args s mc ms free) g := by
  intro T hT X
  obtain ⟨t, a1, o, b1, b2, b3, b4⟩ := k T hT X
  exact ⟨t, a1, o, b1, b2, Or.inl ⟨b3, b4⟩⟩
/-- not caught here: it goes on to the caller -/
theorem vx_widen {g : JFrame} {q : Addr} {k n : Nat} (h1 : cells ≤ k) (h2 : slots ≤ n) (kk : vx_W p l e R s m args below meth c H locs k n Q g q) : vx_W p l e R s m args below meth c H locs cells slots Q g q := fun T hT X => kk T hT (stand_widen X h1 h2)
theorem vx_out {pc : Nat} {E : String} {ce : Cell} {q : Addr} {mc ms : Nat} (hout : ∀ x ∈ c.exceptionTable.toList, covers x pc = false) (hlocks : meth.locks = false) (hcell : H[q]? = some ce) (hv : ce.vm = .none) (hcl : s.vm.findClass E = some ce.cls)
    (hx : ∀ t : State, t.heap = H → s.vm.Alike t.vm → XC E s t) (hf : ∀ z ∈ locs, free z.base) (hc : cells ≤ mc) (hs : slots ≤ ms) :
    vx_W p l e R s m args below meth c H locs cells slots (vx_MQ below Qc XC args s mc ms free) (F0 m pc ls rest) q := by
  intro T hT X
  obtain ⟨st1, hrun, hend, hW, hsm⟩ := X.leaveThrown q (g := F0 m pc ls rest) rfl rfl rfl hout hlocks
  have hcell9 : (T.setFrames (.throwing q :: below)).heap[q]? = some ce := by
    show T.heap[q]? = some ce
    rw [hT]; exact hcell
  exact ⟨_, st1, .threw q, hrun, hend, Or.inr ⟨q, rfl, E, ce, locs, hx _ hT hW.alike, hcell9, hv, hcl, hW, hsm.mono hc hs, hf⟩⟩
theorem vx_frame {U : State} {k n : Nat} (h : s.sameButNew ({ U with vm := s.vm } : State) locs k n) : s.heap.size ≤ U.heap.size ∧ ∀ q : Nat, q < s.heap.size → (∀ z ∈ locs, z.base ≠ q) → U.heap[q]? = s.heap[q]? := by
  obtain ⟨-, h2, -, -, -, h6⟩ := h
  refine ⟨h2, fun q hq hz => ?_⟩
  obtain ⟨c9, e1, e2, e3, e4⟩ := h6 q _ (Array.getElem?_eq_getElem hq)
  have hs : c9.slots = (s.heap[q]).slots := Array.ext_getElem? fun i => e4 i fun hm => hz _ hm rfl
  have h9 : c9 = s.heap[q] := by
    rw [hs] at e2
    exact e2
  have e5 : U.heap[q]? = some c9 := e1
  rw [e5, h9, Array.getElem?_eq_getElem hq]
/-- the words of a throw but the four that speak of the heap -/
def vx_no (w : Cond) : Bool := decide (w ≠ .isRef (.static Bundle.tN "UNASSIGNED_STACK" Bundle.steD)) && decide (w ≠ .isRef (.static Bundle.tN "SUPPRESSED_SENTINEL" Bundle.listD)) && decide (w ≠ .laysStatic Bundle.tN "UNASSIGNED_STACK" Bundle.steD) && decide (w ≠ .laysStatic Bundle.tN "SUPPRESSED_SENTINEL" Bundle.listD)
def vx_at0 (own : String) (ic : Nat) (X : String) (names : List String) : List Cond := (Bundle.ownAtoms0 own ic X names).filter vx_no
def vx_atS (own : String) (ic : Nat) (X : String) (names : List String) : List Cond := (Bundle.ownAtoms own ic X names).filter vx_no
/-- a word that the tables alone decide, or a good one -/
def vx_ot (w : Cond) : Bool := w.onTables || goodWord w
theorem vx_ot_at {args a' : Array Value} {s U : State} {w : Cond} (hW : s.WarmedH U.vm) (hvm : s.vm = U.vm) (hg : vx_ot w = true) (h : w.before args s = true) : w.before a' U = true := by
  simp only [vx_ot, Bool.or_eq_true] at hg
  rcases hg with hg | hg
  · exact va_tabs hg hvm h
  · exact word_at hW (good_of_word hg) h
/-- a list's words: the good ones out of the method's own list, the others by premises of their own -/
theorem vx_hat {args : Array Value} {s : State} {L B : List Cond} (h1 : ∀ w ∈ L.filter goodWord, w.before args s = true) (h2 : ∀ w ∈ L.filter (fun w => !goodWord w), w ∈ B) (h3 : ∀ w ∈ B, w.before args s = true) : ∀ w ∈ L, w.before args s = true := by
  intro w hw
  by_cases g : goodWord w = true
  · exact h1 w (List.mem_filter.mpr ⟨hw, g⟩)
  · refine h3 w (h2 w (List.mem_filter.mpr ⟨hw, ?_⟩))
    show (!goodWord w) = true
    cases hgw : goodWord w
    · rfl
    · exact absurd hgw g
theorem vx_c {args : Array Value} {s : State} {w : Cond} {B : List Cond} (h : w.before args s = true) (t : ∀ w ∈ B, w.before args s = true) : ∀ w' ∈ w :: B, w'.before args s = true := fun w' h' => (List.mem_cons.mp h').elim (fun e => by rw [e]; exact h) (t w')
theorem vx_n {args : Array Value} {s : State} : ∀ w ∈ ([] : List Cond), w.before args s = true := fun _ h => nomatch h
theorem vx_own {args : Array Value} {s : State} {L : List Cond} (h1 : ∀ w ∈ L.filter vx_no, w.before args s = true)
    (hU : (Cond.isRef (.static Bundle.tN "UNASSIGNED_STACK" Bundle.steD)).before args s = true) (hN : (Cond.isRef (.static Bundle.tN "SUPPRESSED_SENTINEL" Bundle.listD)).before args s = true)
    (lU : (Cond.laysStatic Bundle.tN "UNASSIGNED_STACK" Bundle.steD).before args s = true) (lN : (Cond.laysStatic Bundle.tN "SUPPRESSED_SENTINEL" Bundle.listD).before args s = true) : ∀ w ∈ L, w.before args s = true := by
  intro w hw
  by_cases e1 : w = .isRef (.static Bundle.tN "UNASSIGNED_STACK" Bundle.steD)
  · rw [e1]; exact hU
  · by_cases e2 : w = .isRef (.static Bundle.tN "SUPPRESSED_SENTINEL" Bundle.listD)
    · rw [e2]; exact hN
    · by_cases e3 : w = .laysStatic Bundle.tN "UNASSIGNED_STACK" Bundle.steD
      · rw [e3]; exact lU
      · by_cases e4 : w = .laysStatic Bundle.tN "SUPPRESSED_SENTINEL" Bundle.listD
        · rw [e4]; exact lN
        · exact h1 w (List.mem_filter.mpr ⟨hw, by unfold vx_no; rw [decide_eq_true e1, decide_eq_true e2, decide_eq_true e3, decide_eq_true e4]; rfl⟩)
/-- where a static field lies, its class's statics cell in H -/
def vx_L (C n d : String) (A : Nat → Prop) (U : State) (H : Heap) : Prop := ∃ (c : ClassId) (k : Class) (i : Nat) (f : Field) (a : Nat) (cell : Cell), U.vm.findClass C = some c ∧ U.fieldFound? C n d = some (c, k, i, f) ∧ f.isStatic = true ∧ k.statics = some a ∧ H[a]? = some cell ∧ cell.vm.isStatics = true ∧ cell.cls = c ∧ f.slot < cell.slots.size ∧ k.staticTypes[f.slot]? = some f.type ∧ ¬ A a
theorem vx_L.moved {C n d : String} {A : Nat → Prop} {u U : State} {H : Heap} (hvm : u.vm.Alike U.vm) (h : vx_L C n d A u H) : vx_L C n d A U H := by
  obtain ⟨c, k, i, f, a, cell, h1, h2, h3, h4, h5, h6, h7, h8, h9, h10⟩ := h
  obtain ⟨k', hi', he⟩ := State.fieldFound?_setVm hvm h2
  exact ⟨c, k', i, f, a, cell, by rw [hvm.findClass]; exact h1, hi', h3, by rw [he]; exact h4, h5, h6, h7, h8, by rw [he]; exact h9, h10⟩
theorem vx_L.kept {C n d : String} {A : Nat → Prop} {U : State} {H H1 : Heap} (h : vx_L C n d A U H) (hq : ∀ a : Nat, a < H.size → ¬ A a → H1[a]? = H[a]?) : vx_L C n d A U H1 := by
  obtain ⟨c, k, i, f, a, cell, h1, h2, h3, h4, h5, h6, h7, h8, h9, h10⟩ := h
  exact ⟨c, k, i, f, a, cell, h1, h2, h3, h4, by rw [hq a (Array.getElem?_eq_some_iff.mp h5).1 h10]; exact h5, h6, h7, h8, h9, h10⟩
theorem vx_L.narrow {C n d : String} {A B : Nat → Prop} {U : State} {H : Heap} (h : vx_L C n d A U H) (hAB : ∀ q, B q → A q) : vx_L C n d B U H := by
  obtain ⟨c, k, i, f, a, cell, h1, h2, h3, h4, h5, h6, h7, h8, h9, h10⟩ := h
  exact ⟨c, k, i, f, a, cell, h1, h2, h3, h4, h5, h6, h7, h8, h9, fun z => h10 (hAB _ z)⟩
theorem vx_L.word {C n d : String} {A : Nat → Prop} {s : State} {args : Array Value} (h : vx_L C n d A s s.heap) : (Cond.laysStatic C n d).before args s = true := by
  obtain ⟨c, k, i, f, a, cell, h1, h2, h3, h4, h5, h6, h7, h8, h9, -⟩ := h
  show (Cond.laysStatic C n d).holds args s none s [] = true
  exact Cond.laysStatic_of h1 h2 h3 h4 h5 h6 h7 h8 h9
/-- .. and what it holds: null or some reference -/
def vx_Zq (C n d : String) (A : Nat → Prop) (U : State) (H : Heap) : Prop := va_Zq C n d A U H ∧ vx_L C n d A U H
theorem vx_Zq.moved {C n d : String} {A : Nat → Prop} {u U : State} {H : Heap} (hvm : u.vm.Alike U.vm) (h : vx_Zq C n d A u H) : vx_Zq C n d A U H := ⟨va_Zq.moved hvm h.1, vx_L.moved hvm h.2⟩
theorem vx_Zq.kept {C n d : String} {A : Nat → Prop} {U : State} {H H1 : Heap} (h : vx_Zq C n d A U H) (hq : ∀ a : Nat, a < H.size → ¬ A a → H1[a]? = H[a]?) : vx_Zq C n d A U H1 := ⟨va_Zq.kept h.1 hq, vx_L.kept h.2 hq⟩
theorem vx_Zq.narrow {C n d : String} {A B : Nat → Prop} {U : State} {H : Heap} (h : vx_Zq C n d A U H) (hAB : ∀ q, B q → A q) : vx_Zq C n d B U H := ⟨va_Zq.narrow h.1 hAB, vx_L.narrow h.2 hAB⟩
theorem vx_Zqof {args : Array Value} {s : State} {C n d : String} {A : Nat → Prop} (hl : (Cond.laysStatic C n d).before args s = true) (hini : (Cond.initialized C).before args s = true) (h : (Cond.isRef (.static C n d)).before args s = true) (hA : ∀ a : Nat, a < s.heap.size → ¬ A a) : vx_Zq C n d A s s.heap := by
  refine ⟨va_Zqof hl hini h hA, ?_⟩
  obtain ⟨c, k, i, f, a, cell, h1, h2, h3, h4, h5, h6, h7, h8, h9⟩ := Cond.laysStatic_spec hl
  exact ⟨c, k, i, f, a, cell, h1, h2, h3, h4, h5, h6, h7, h8, h9, hA a (Array.getElem?_eq_some_iff.mp h5).1⟩
theorem vx_isRef {C n d : String} {v : Value} {A : Nat → Prop} {s : State} {args : Array Value} (h : va_Z C n d v A s s.heap) (hv : v.isRef = true) : (Cond.isRef (.static C n d)).before args s = true := by
  obtain ⟨cf, kf, fi, f, a, cell, h1, h2, h3, h4, h5, h6, h7, -⟩ := h
  have he : (Term.static C n d).eval args s none [] s = some v := by
    simp [Term.eval, State.fieldNamed?, h1, h2, h4, h5, h6, h7]
  simp only [Cond.before, Cond.holds, Cond.value, he]
  cases v <;> simp_all [Value.isRef]
theorem vx_isRefq {C n d : String} {A : Nat → Prop} {s : State} {args : Array Value} (h : va_Zq C n d A s s.heap) : (Cond.isRef (.static C n d)).before args s = true := by
  rcases h with h | ⟨t, h⟩
  · exact vx_isRef h rfl
  · exact vx_isRef h rfl
/-- the same frame, seen from here: as if the method were called anew in this heap -/
theorem vx_rebase {T : State} (X : Stand p l e R s m args below meth c T locs cells slots) {R' : Room} (hf : R'.frames ≤ R.frames) (hl : R'.locals ≤ R.locals) (hc : cells + R'.cells ≤ R.cells) (hs : slots + R'.slots ≤ R.slots) :
    Stand p l e R' ((T.setVm s.vm).setFrames (.invoking m args :: below)) m args below meth c T [] 0 0 := by
  have htop : (T.setVm s.vm).topJava?.isSome := X.here.top
  have hF : ((T.setVm s.vm).setFrames (.invoking m args :: below)).frames = .invoking m args :: below := State.frames_setFrames _ (State.cur_lt_of_top htop)
  obtain ⟨g₀, hg0⟩ := Option.isSome_iff_exists.mp htop
  obtain ⟨r, hr⟩ := State.topJava?_eq_some.mp hg0
  have hl9 : e.platform.stackLimits (T.setVm s.vm).me = e.platform.stackLimits s.me := X.limits
  have hb9 : (T.setVm s.vm).me.stackBytes = s.me.stackBytes := X.bytes
  refine ⟨X.admits, X.cas, X.clock, hF, ?_, X.hears, X.method, X.code, X.here, X.tail, X.warmed, ?_, ?_, ?_⟩
  · have h := X.room
    have hU : ((T.setVm s.vm).setFrames (.invoking m args :: below)).localsInUse = s.localsInUse := by
      rw [State.localsInUse_invoking hF (meth := meth) (c := c) X.method X.code, State.localsInUse_invoking X.frames X.method X.code]
    simp only [State.hasRoom, Bool.and_eq_true, decide_eq_true_eq] at h ⊢
    obtain ⟨⟨⟨⟨h1, h2, h3, h4, h5, h6⟩, h7⟩, h8⟩, h9⟩ := h
    rw [X.frames, List.length_cons] at h2 h3
    have q1 := X.heapSize
    have q2 := X.used
    simp only [hF, hU, List.length_cons, State.stackLimits_setFrames, State.stackBytes_setFrames, hl9, hb9]
    refine ⟨⟨⟨⟨by omega, by omega, by omega, by omega, by omega, h6⟩, ?_⟩, ?_⟩, X.book⟩
    · show T.heap.size + R'.cells ≤ e.platform.maxCells
      omega
    · show T.slotsUsed + R'.slots ≤ e.platform.maxSlots
      omega
  · rw [State.stackLimits_setFrames]; rfl
  · rw [State.stackBytes_setFrames]; rfl
  · refine ⟨?_, Nat.le_refl _, Nat.le_refl _, ?_, ?_, fun a c9 h9 => ⟨c9, h9, rfl, rfl, fun _ _ => rfl⟩⟩
    · obtain ⟨t, ht, -⟩ := State.frames_cons hr
      show T.setVm s.vm = { ((T.setVm s.vm).setFrames (.invoking m args :: below)).setFrames (T.setVm s.vm).frames with heap := T.heap, slotsUsed := T.slotsUsed }
      rw [State.setFrames_setFrames, State.setFrames_self ht]
      rfl
    · show T.slotsUsed = T.slotsUsed + ((T.heap.toList.drop T.heap.size).map (·.slots.size)).sum
      rw [List.drop_eq_nil_of_le (Nat.le_of_eq Array.length_toList)]
      rfl
    · show ((T.heap.toList.drop T.heap.size).map (·.slots.size)).sum ≤ 0
      rw [List.drop_eq_nil_of_le (Nat.le_of_eq Array.length_toList)]
      exact Nat.le_refl _
/-- 'throw new E()': new; dup; invokespecial; athrow -/
theorem vx_throw0 {cc : ByteArray} {pc : Nat} (hexec : p.tables.exec = Jvm.exec) (hb : c.code = cc) (hl : l.stackTraces = false) {own cls : String} {names : List String} {ik ic mc ms : Nat} {A : Nat → Prop}
    (hown : s.vm.findClass own = some m.cls) (hcls : Bundle.fit cls = true) (hnames : ∀ n ∈ names, Bundle.fit n = true)
    (hk : (Cond.classLink own ik cls).before args s = true) (hini : (Cond.initialized cls).before args s = true) (hat : ∀ w ∈ vx_at0 own ic cls names, w.before args s = true)
    (hgood : ∀ w ∈ Cond.classLink own ik cls :: Cond.initialized cls :: vx_at0 own ic cls names, vx_ot w = true)
    (hU : vx_Zq Bundle.tN "UNASSIGNED_STACK" Bundle.steD A s s.heap) (hN : vx_Zq Bundle.tN "SUPPRESSED_SENTINEL" Bundle.listD A s s.heap) (hS : va_S A s.heap H locs) (hsize : ls.size = c.maxLocals)
    (d0 : decode cc pc = .ok (.new ik, 3)) (d3 : decode cc (pc + 3) = .ok (.dup, 1)) (d4 : decode cc (pc + 4) = .ok (.invokespecial ic, 3)) (d7 : decode cc (pc + 7) = .ok (.athrow, 1))
    (hout : ∀ x ∈ c.exceptionTable.toList, covers x (pc + 7) = false)
    (hRframes : names.length + 3 < R.frames) (hRlocals : (rest.map fun v => v.category).sum + (13 * (names.length + 1) + 42) ≤ R.locals) (hRcells : cells + 1 ≤ R.cells) (hRslots : slots + 6 ≤ R.slots) (hlocks : meth.locks = false)
    (hx : ∀ t : State, s.vm.Alike t.vm → H.size ≤ t.heap.size → (∀ q : Nat, q < H.size → t.heap[q]? = H[q]?) → XC cls s t)
    (hf : ∀ z ∈ locs, free z.base) (hc : cells + 1 ≤ mc) (hs : slots + 6 ≤ ms) :
    W p l e R s m args below meth c H locs cells slots (vx_MQ below Qc XC args s mc ms free) (F0 m pc ls rest) := by
  intro T hT X
  have htr : e.platform.stackTraces = false := (show e.platform.stackTraces = l.stackTraces by rw [X.admits.platform]).trans hl
  have Y := vx_rebase X (R' := { frames := R.frames, locals := R.locals, cells := 1, slots := 6 }) (Nat.le_refl _) (Nat.le_refl _) hRcells hRslots
  obtain ⟨s', hA⟩ : ∃ z, z = (T.setVm s.vm).setFrames (.invoking m args :: below) := ⟨_, rfl⟩
  rw [← hA] at Y
  have hvm : s'.vm = s.vm := by rw [hA]; rfl
  have hhp : s'.heap = H := by rw [hA]; exact hT
  have hW0 : s.WarmedH s'.vm := by rw [hvm]; exact State.WarmedH.refl s
  have hat' : ∀ w ∈ vx_at0 own ic cls names, w.before args s' = true := fun w hw => vx_ot_at hW0 hvm.symm (hgood w (List.mem_cons_of_mem _ (List.mem_cons_of_mem _ hw))) (hat w hw)
  have hk' : (Cond.classLink own ik cls).before args s' = true := vx_ot_at hW0 hvm.symm (hgood _ List.mem_cons_self) hk
  have hini' : (Cond.initialized cls).before args s' = true := vx_ot_at hW0 hvm.symm (hgood _ (List.mem_cons_of_mem _ List.mem_cons_self)) hini
  have hU' : vx_Zq Bundle.tN "UNASSIGNED_STACK" Bundle.steD A s' s'.heap := by rw [hhp]; exact vx_Zq.moved hW0.alike (hU.kept hS.2.1)
  have hN' : vx_Zq Bundle.tN "SUPPRESSED_SENTINEL" Bundle.listD A s' s'.heap := by rw [hhp]; exact vx_Zq.moved hW0.alike (hN.kept hS.2.1)
  have h : ∀ w ∈ Bundle.ownAtoms0 own ic cls names, w.before args s' = true := vx_own hat' (vx_isRefq hU'.1) (vx_isRefq hN'.1) hU'.2.word hN'.2.word
  have hown' : s'.vm.findClass own = some m.cls := by rw [hvm]; exact hown
  have hins : (Cond.instantiable cls 6).before args s' = true := h _ (by simp [Bundle.ownAtoms0])
  obtain ⟨vm₁, cX, kX, hfX, hkX, -, -, X₁, st1⟩ := Y.newCold hexec (own := own) (C := cls) (index := ik) (n := 6) hown' hk' hins hini'
    (g := F0 m pc ls rest) rfl (by rw [hb]; exact d0) (Nat.le_refl _) (Nat.le_refl _)
  generalize hT1 : (T.setVm vm₁).pushCell { cls := cX, slots := kX.instanceTypes.map defaultValue, vm := .none } = T1 at X₁ st1
  have hcat : (Value.ref T.heap.size).category = 1 := rfl
  have hcellA : T1.heap[T.heap.size]? = some (freshCell cX kX) := by rw [← hT1]; exact State.heap_pushCell_size _ _
  have d3' : decode c.code (pc + 3) = .ok (.dup, 1) := by rw [hb]; exact d3
  obtain ⟨U, hsteps, hrun, hend, hW, hsame, ce, hce, hO⟩ := X₁.ctorThrow0 hexec htr (own := own) (cls := cls) (names := names) (ic := ic) hown' hcls hnames h (fun x hx => nomatch hx) hfX hkX hcellA (by rw [hhp, hT]; exact Nat.le_refl _)
    (g := { method := m, pc := pc + 4, locals := ls, stack := .ref T.heap.size :: .ref T.heap.size :: rest, locked := none }) rfl hsize rfl rfl (rest := rest) rfl
    (by rw [hb]; exact d4) (by rw [hb]; exact d7) hout hRframes (by simp only [List.map_cons, List.sum_cons, hcat]; omega) hlocks
  obtain ⟨f1, f2⟩ := vx_frame hsame
  rw [hhp] at f1 f2
  have hWs : s.WarmedH U.vm := State.WarmedH.trans hW0 hW
  have hcl : s.vm.findClass cls = some ce.cls := by
    have h9 := hO.cls
    rw [hvm] at h9
    exact h9
  have hall : s.sameButNew ({ U with vm := s.vm } : State) locs mc ms := by
    subst hA
    obtain ⟨e1, e2⟩ := hsame
    rw [State.setFrames_setFrames] at e1
    have h2 : (T.setVm s.vm).sameButNew ({ U with vm := s.vm } : State) [] (0 + 1) (0 + 6) := ⟨e1, e2⟩
    have h3 := X.same.trans h2
    rw [List.append_nil] at h3
    exact h3.mono hc hs
  refine ⟨U, ?_, .threw T.heap.size, hrun, hend, Or.inr ⟨T.heap.size, rfl, cls, ce, locs, hx U hWs.alike f1 (fun q hq => f2 q hq (fun z hz => nomatch hz)), hce, hO.vm, hcl, hWs, hall, hf⟩⟩
  refine st1 _ ?_
  show Steps p.tables e below (T1.setTop { method := m, pc := pc + 3, locals := ls, stack := .ref T.heap.size :: rest, locked := none }) _
  jvm_step X₁.here [X₁.here.top, hexec, d3', Value.category]
  exact hsteps
/-- 'throw new E("text")': new; dup; ldc; invokespecial; athrow -/
theorem vx_throwS {cc : ByteArray} {pc : Nat} (hexec : p.tables.exec = Jvm.exec) (hb : c.code = cc) (hl : l.stackTraces = false) {own cls text : String} {names : List String} {ik is ic mc ms sa : Nat} {A : Nat → Prop}
    (hown : s.vm.findClass own = some m.cls) (hcls : Bundle.fit cls = true) (hnames : ∀ n ∈ names, Bundle.fit n = true)
    (hk : (Cond.classLink own ik cls).before args s = true) (hini : (Cond.initialized cls).before args s = true) (hstr : vk_R own is text sa s) (hat : ∀ w ∈ vx_atS own ic cls names, w.before args s = true)
    (hgood : ∀ w ∈ Cond.classLink own ik cls :: Cond.initialized cls :: vx_atS own ic cls names, vx_ot w = true)
    (hU : vx_Zq Bundle.tN "UNASSIGNED_STACK" Bundle.steD A s s.heap) (hN : vx_Zq Bundle.tN "SUPPRESSED_SENTINEL" Bundle.listD A s s.heap) (hS : va_S A s.heap H locs) (hsize : ls.size = c.maxLocals)
    (d0 : decode cc pc = .ok (.new ik, 3)) (d3 : decode cc (pc + 3) = .ok (.dup, 1)) (d4 : decode cc (pc + 4) = .ok (.ldc is, 2)) (d6 : decode cc (pc + 6) = .ok (.invokespecial ic, 3)) (d9 : decode cc (pc + 9) = .ok (.athrow, 1))
    (hout : ∀ x ∈ c.exceptionTable.toList, covers x (pc + 9) = false)
    (hRframes : names.length + 3 < R.frames) (hRlocals : (rest.map fun v => v.category).sum + (13 * (names.length + 1) + 43) ≤ R.locals) (hRcells : cells + 1 ≤ R.cells) (hRslots : slots + 6 ≤ R.slots) (hlocks : meth.locks = false)
    (hx : ∀ t : State, s.vm.Alike t.vm → H.size ≤ t.heap.size → (∀ q : Nat, q < H.size → t.heap[q]? = H[q]?) → XC cls s t)
    (hf : ∀ z ∈ locs, free z.base) (hc : cells + 1 ≤ mc) (hs : slots + 6 ≤ ms) :
    W p l e R s m args below meth c H locs cells slots (vx_MQ below Qc XC args s mc ms free) (F0 m pc ls rest) := by
  intro T hT X
  have htr : e.platform.stackTraces = false := (show e.platform.stackTraces = l.stackTraces by rw [X.admits.platform]).trans hl
  have Y := vx_rebase X (R' := { frames := R.frames, locals := R.locals, cells := 1, slots := 6 }) (Nat.le_refl _) (Nat.le_refl _) hRcells hRslots
  obtain ⟨s', hA⟩ : ∃ z, z = (T.setVm s.vm).setFrames (.invoking m args :: below) := ⟨_, rfl⟩
  rw [← hA] at Y
  have hvm : s'.vm = s.vm := by rw [hA]; rfl
  have hhp : s'.heap = H := by rw [hA]; exact hT
  have hW0 : s.WarmedH s'.vm := by rw [hvm]; exact State.WarmedH.refl s
  have hat' : ∀ w ∈ vx_atS own ic cls names, w.before args s' = true := fun w hw => vx_ot_at hW0 hvm.symm (hgood w (List.mem_cons_of_mem _ (List.mem_cons_of_mem _ hw))) (hat w hw)
  have hk' : (Cond.classLink own ik cls).before args s' = true := vx_ot_at hW0 hvm.symm (hgood _ List.mem_cons_self) hk
  have hini' : (Cond.initialized cls).before args s' = true := vx_ot_at hW0 hvm.symm (hgood _ (List.mem_cons_of_mem _ List.mem_cons_self)) hini
  have hU' : vx_Zq Bundle.tN "UNASSIGNED_STACK" Bundle.steD A s' s'.heap := by rw [hhp]; exact vx_Zq.moved hW0.alike (hU.kept hS.2.1)
  have hN' : vx_Zq Bundle.tN "SUPPRESSED_SENTINEL" Bundle.listD A s' s'.heap := by rw [hhp]; exact vx_Zq.moved hW0.alike (hN.kept hS.2.1)
  have h : ∀ w ∈ Bundle.ownAtoms own ic cls names, w.before args s' = true := vx_own hat' (vx_isRefq hU'.1) (vx_isRefq hN'.1) hU'.2.word hN'.2.word
  have hown' : s'.vm.findClass own = some m.cls := by rw [hvm]; exact hown
  have hins : (Cond.instantiable cls 6).before args s' = true := h _ (by simp [Bundle.ownAtoms])
  obtain ⟨vm₁, cX, kX, hfX, hkX, -, -, X₁, st1⟩ := Y.newCold hexec (own := own) (C := cls) (index := ik) (n := 6) hown' hk' hins hini'
    (g := F0 m pc ls rest) rfl (by rw [hb]; exact d0) (Nat.le_refl _) (Nat.le_refl _)
  generalize hT1 : (T.setVm vm₁).pushCell { cls := cX, slots := kX.instanceTypes.map defaultValue, vm := .none } = T1 at X₁ st1
  have hcat : (Value.ref T.heap.size).category = 1 := rfl
  have hcellA : T1.heap[T.heap.size]? = some (freshCell cX kX) := by rw [← hT1]; exact State.heap_pushCell_size _ _
  have d3' : decode c.code (pc + 3) = .ok (.dup, 1) := by rw [hb]; exact d3
  have d4' : decode c.code (pc + 4) = .ok (.ldc is, 2) := by rw [hb]; exact d4
  have hstr' : vk_R own is text sa s' := vk_R.warm hW0 hstr
  obtain ⟨U, hsteps, hrun, hend, hW, hsame, ce, hce, hO⟩ := X₁.ctorThrowS hexec htr (own := own) (cls := cls) (names := names) (ic := ic) hown' hcls hnames h (fun x hx => nomatch hx) hfX hkX hcellA (by rw [hhp, hT]; exact Nat.le_refl _) (msg := .ref sa) rfl
    (g := { method := m, pc := pc + 6, locals := ls, stack := .ref sa :: .ref T.heap.size :: .ref T.heap.size :: rest, locked := none }) rfl hsize rfl rfl (rest := rest) rfl
    (by rw [hb]; exact d6) (by rw [hb]; exact d9) hout hRframes (by simp only [List.map_cons, List.sum_cons, hcat]; omega) hlocks
  obtain ⟨f1, f2⟩ := vx_frame hsame
  rw [hhp] at f1 f2
  have hWs : s.WarmedH U.vm := State.WarmedH.trans hW0 hW
  have hcl : s.vm.findClass cls = some ce.cls := by
    have h9 := hO.cls
    rw [hvm] at h9
    exact h9
  have hall : s.sameButNew ({ U with vm := s.vm } : State) locs mc ms := by
    subst hA
    obtain ⟨e1, e2⟩ := hsame
    rw [State.setFrames_setFrames] at e1
    have h2 : (T.setVm s.vm).sameButNew ({ U with vm := s.vm } : State) [] (0 + 1) (0 + 6) := ⟨e1, e2⟩
    have h3 := X.same.trans h2
    rw [List.append_nil] at h3
    exact h3.mono hc hs
  refine ⟨U, ?_, .threw T.heap.size, hrun, hend, Or.inr ⟨T.heap.size, rfl, cls, ce, locs, hx U hWs.alike f1 (fun q hq => f2 q hq (fun z hz => nomatch hz)), hce, hO.vm, hcl, hWs, hall, hf⟩⟩
  refine st1 _ ?_
  show Steps p.tables e below (T1.setTop { method := m, pc := pc + 3, locals := ls, stack := .ref T.heap.size :: rest, locked := none }) _
  jvm_step X₁.here [X₁.here.top, hexec, d3', Value.category]
  exact X₁.ldcString hexec (own := own) (text := text) (index := is) (a := sa) hown' hstr'.1 hstr'.2
    (g := { method := m, pc := pc + 4, locals := ls, stack := .ref T.heap.size :: .ref T.heap.size :: rest, locked := none }) rfl d4' _ hsteps
/-- 'throw new E("text")', the text by a wide index -/
theorem vx_throwSW {cc : ByteArray} {pc : Nat} (hexec : p.tables.exec = Jvm.exec) (hb : c.code = cc) (hl : l.stackTraces = false) {own cls text : String} {names : List String} {ik is ic mc ms sa : Nat} {A : Nat → Prop}
    (hown : s.vm.findClass own = some m.cls) (hcls : Bundle.fit cls = true) (hnames : ∀ n ∈ names, Bundle.fit n = true)
    (hk : (Cond.classLink own ik cls).before args s = true) (hini : (Cond.initialized cls).before args s = true) (hstr : vk_R own is text sa s) (hat : ∀ w ∈ vx_atS own ic cls names, w.before args s = true)
    (hgood : ∀ w ∈ Cond.classLink own ik cls :: Cond.initialized cls :: vx_atS own ic cls names, vx_ot w = true)
    (hU : vx_Zq Bundle.tN "UNASSIGNED_STACK" Bundle.steD A s s.heap) (hN : vx_Zq Bundle.tN "SUPPRESSED_SENTINEL" Bundle.listD A s s.heap) (hS : va_S A s.heap H locs) (hsize : ls.size = c.maxLocals)
    (d0 : decode cc pc = .ok (.new ik, 3)) (d3 : decode cc (pc + 3) = .ok (.dup, 1)) (d4 : decode cc (pc + 4) = .ok (.ldc_w is, 3)) (d7 : decode cc (pc + 7) = .ok (.invokespecial ic, 3)) (d10 : decode cc (pc + 10) = .ok (.athrow, 1))
    (hout : ∀ x ∈ c.exceptionTable.toList, covers x (pc + 10) = false)
    (hRframes : names.length + 3 < R.frames) (hRlocals : (rest.map fun v => v.category).sum + (13 * (names.length + 1) + 43) ≤ R.locals) (hRcells : cells + 1 ≤ R.cells) (hRslots : slots + 6 ≤ R.slots) (hlocks : meth.locks = false)
    (hx : ∀ t : State, s.vm.Alike t.vm → H.size ≤ t.heap.size → (∀ q : Nat, q < H.size → t.heap[q]? = H[q]?) → XC cls s t)
    (hf : ∀ z ∈ locs, free z.base) (hc : cells + 1 ≤ mc) (hs : slots + 6 ≤ ms) :
    W p l e R s m args below meth c H locs cells slots (vx_MQ below Qc XC args s mc ms free) (F0 m pc ls rest) := by
  intro T hT X
  have htr : e.platform.stackTraces = false := (show e.platform.stackTraces = l.stackTraces by rw [X.admits.platform]).trans hl
  have Y := vx_rebase X (R' := { frames := R.frames, locals := R.locals, cells := 1, slots := 6 }) (Nat.le_refl _) (Nat.le_refl _) hRcells hRslots
  obtain ⟨s', hA⟩ : ∃ z, z = (T.setVm s.vm).setFrames (.invoking m args :: below) := ⟨_, rfl⟩
  rw [← hA] at Y
  have hvm : s'.vm = s.vm := by rw [hA]; rfl
  have hhp : s'.heap = H := by rw [hA]; exact hT
  have hW0 : s.WarmedH s'.vm := by rw [hvm]; exact State.WarmedH.refl s
  have hat' : ∀ w ∈ vx_atS own ic cls names, w.before args s' = true := fun w hw => vx_ot_at hW0 hvm.symm (hgood w (List.mem_cons_of_mem _ (List.mem_cons_of_mem _ hw))) (hat w hw)
  have hk' : (Cond.classLink own ik cls).before args s' = true := vx_ot_at hW0 hvm.symm (hgood _ List.mem_cons_self) hk
  have hini' : (Cond.initialized cls).before args s' = true := vx_ot_at hW0 hvm.symm (hgood _ (List.mem_cons_of_mem _ List.mem_cons_self)) hini
  have hU' : vx_Zq Bundle.tN "UNASSIGNED_STACK" Bundle.steD A s' s'.heap := by rw [hhp]; exact vx_Zq.moved hW0.alike (hU.kept hS.2.1)
  have hN' : vx_Zq Bundle.tN "SUPPRESSED_SENTINEL" Bundle.listD A s' s'.heap := by rw [hhp]; exact vx_Zq.moved hW0.alike (hN.kept hS.2.1)
  have h : ∀ w ∈ Bundle.ownAtoms own ic cls names, w.before args s' = true := vx_own hat' (vx_isRefq hU'.1) (vx_isRefq hN'.1) hU'.2.word hN'.2.word
  have hown' : s'.vm.findClass own = some m.cls := by rw [hvm]; exact hown
  have hins : (Cond.instantiable cls 6).before args s' = true := h _ (by simp [Bundle.ownAtoms])
  obtain ⟨vm₁, cX, kX, hfX, hkX, -, -, X₁, st1⟩ := Y.newCold hexec (own := own) (C := cls) (index := ik) (n := 6) hown' hk' hins hini'
    (g := F0 m pc ls rest) rfl (by rw [hb]; exact d0) (Nat.le_refl _) (Nat.le_refl _)
  generalize hT1 : (T.setVm vm₁).pushCell { cls := cX, slots := kX.instanceTypes.map defaultValue, vm := .none } = T1 at X₁ st1
  have hcat : (Value.ref T.heap.size).category = 1 := rfl
  have hcellA : T1.heap[T.heap.size]? = some (freshCell cX kX) := by rw [← hT1]; exact State.heap_pushCell_size _ _
  have d3' : decode c.code (pc + 3) = .ok (.dup, 1) := by rw [hb]; exact d3
  have d4' : decode c.code (pc + 4) = .ok (.ldc_w is, 3) := by rw [hb]; exact d4
  have hstr' : vk_R own is text sa s' := vk_R.warm hW0 hstr
  obtain ⟨U, hsteps, hrun, hend, hW, hsame, ce, hce, hO⟩ := X₁.ctorThrowS hexec htr (own := own) (cls := cls) (names := names) (ic := ic) hown' hcls hnames h (fun x hx => nomatch hx) hfX hkX hcellA (by rw [hhp, hT]; exact Nat.le_refl _) (msg := .ref sa) rfl
    (g := { method := m, pc := pc + 7, locals := ls, stack := .ref sa :: .ref T.heap.size :: .ref T.heap.size :: rest, locked := none }) rfl hsize rfl rfl (rest := rest) rfl
    (by rw [hb]; exact d7) (by rw [hb]; exact d10) hout hRframes (by simp only [List.map_cons, List.sum_cons, hcat]; omega) hlocks
  obtain ⟨f1, f2⟩ := vx_frame hsame
  rw [hhp] at f1 f2
  have hWs : s.WarmedH U.vm := State.WarmedH.trans hW0 hW
  have hcl : s.vm.findClass cls = some ce.cls := by
    have h9 := hO.cls
    rw [hvm] at h9
    exact h9
  have hall : s.sameButNew ({ U with vm := s.vm } : State) locs mc ms := by
    subst hA
    obtain ⟨e1, e2⟩ := hsame
    rw [State.setFrames_setFrames] at e1
    have h2 : (T.setVm s.vm).sameButNew ({ U with vm := s.vm } : State) [] (0 + 1) (0 + 6) := ⟨e1, e2⟩
    have h3 := X.same.trans h2
    rw [List.append_nil] at h3
    exact h3.mono hc hs
  refine ⟨U, ?_, .threw T.heap.size, hrun, hend, Or.inr ⟨T.heap.size, rfl, cls, ce, locs, hx U hWs.alike f1 (fun q hq => f2 q hq (fun z hz => nomatch hz)), hce, hO.vm, hcl, hWs, hall, hf⟩⟩
  refine st1 _ ?_
  show Steps p.tables e below (T1.setTop { method := m, pc := pc + 3, locals := ls, stack := .ref T.heap.size :: rest, locked := none }) _
  jvm_step X₁.here [X₁.here.top, hexec, d3', Value.category]
  exact X₁.ldcStringW hexec (own := own) (text := text) (index := is) (a := sa) hown' hstr'.1 hstr'.2
    (g := { method := m, pc := pc + 4, locals := ls, stack := .ref T.heap.size :: .ref T.heap.size :: rest, locked := none }) rfl d4' _ hsteps
end Ends
section Bodies
variable {l : Launch}
theorem vx_ofW {y : MethodName} {ws ws' : List Cond} {rm : Room} {Pc : Array Value → State → Prop} {Qc : Array Value → State → Outcome → State → Prop} {XC : String → State → State → Prop} {mc ms : Nat} {free : Addr → Prop} {cc : ByteArray} {maxL : Nat} {ret : Option FieldType}
    (hy : plainName y.cls = true) (hw : ws = Cond.code y cc maxL ret :: ws')
    (body : ∀ p e s m args below meth c s₁, BodyLoose p l y (headSpec ws rm) cc maxL ret e s m args below meth c s₁ → c.maxLocals = maxL → (∀ x ∈ c.exceptionTable.toList, False) → Pc args s →
      W p l e (headSpec ws rm).room s m args below meth c s.heap [] 0 0 (vx_MQ below Qc XC args s mc ms free) (entryFrame m args maxL)) : vx_Met l y ws rm Pc Qc XC mc ms free := by
  refine MetFree.of_bodyS (code := cc) (maxLocals := maxL) (ret := ret) hy ?_ ?_
  · intro args s m h hn
    obtain ⟨meth, c, h1, h2, h3, h4, h5, h6, -, -⟩ := Cond.code_spec hn (atoms_spec (ws := ws) h _ (by rw [hw]; exact List.mem_cons_self))
    exact ⟨meth, c, h1, h2, h3, h4, h5, h6⟩
  · intro p e s m args below meth c s₁ B hml hP _
    have hh0 : s₁.heap = s.heap := by rw [B.state]; rfl
    have ht : ∀ x ∈ c.exceptionTable.toList, False := by
      obtain ⟨meth9, c9, h1, h2, -, -, -, -, h7, -⟩ := Cond.code_spec B.named (atoms_spec (ws := ws) B.pre _ (by rw [hw]; exact List.mem_cons_self))
      cases Option.some.inj (h1.symm.trans B.method)
      cases Option.some.inj (h2.symm.trans (Stand.of_body B).code)
      intro x hx
      rw [Array.isEmpty_iff.mp h7] at hx
      cases hx
    obtain ⟨t, a1, o, b1, b2, b3⟩ := body p e s m args below meth c s₁ B hml ht hP s₁ hh0 (Stand.of_body B)
    exact ⟨t, o, a1, b1, b2, b3⟩
/-- the table of a body with handlers -/
theorem vx_table {p : Program} {x y : MethodName} {S : Spec} {cc bytes : ByteArray} {maxL maxL' : Nat} {ret ret' : Option FieldType} {e : Env} {s s₁ : State} {m : MethodId} {args : Array Value} {below : List Frame} {meth : Method} {c : Code} {hh : List (Nat × Nat × Nat × Nat)}
    (B : BodyLoose p l y S cc maxL ret e s m args below meth c s₁) (h : (Cond.codeWith y bytes maxL' ret' hh).before args s = true) : c.exceptionTable.toList = tableOf hh := by
  obtain ⟨m9, meth9, c9, hn9, h1, h2, -, -, h6, -⟩ := Cond.codeWith_spec h
  cases Option.some.inj (hn9.symm.trans B.named)
  cases Option.some.inj (h1.symm.trans B.method)
  cases Option.some.inj (h2.symm.trans (Stand.of_body B).code)
  rw [← h6, table_eq]
end Bodies
end VXA
/-! ===== END ===== -/
/-! ===== BEGIN a static call of a method with an exception table ===== -/
section VXS
variable {p : Program} {l : Launch} {e : Env} {R : Room} {s : State} {m : MethodId} {args : Array Value} {below : List Frame} {meth : Method} {c : Code} {T : State} {H : Heap} {locs : List Loc} {cells slots : Nat}
abbrev vx_CSW (R : Room) (s : State) (args : Array Value) (own : String) (index : Nat) (y : MethodName) (bytes : ByteArray) (maxL : Nat) (ret : Option FieldType) (hh : List (Nat × Nat × Nat × Nat)) (ws : List Cond) (rm : Room) (mc ms n : Nat) : Prop :=
  (rm.cells = mc ∧ rm.slots = ms ∧ rm.frames + 1 ≤ R.frames ∧ 8 + (maxL + 11) + rm.locals ≤ R.locals ∧ (∀ w ∈ ws, ∀ (a' : Array Value) (U : State), s.WarmedH U.vm → w.before a' U = true) ∧ Cond.codeWith y bytes maxL ret hh ∈ ws) ∧
  (Cond.codeWith y bytes maxL ret hh).before args s = true ∧ (Cond.initialized y.cls).before args s = true ∧ (y.cls ≠ "java/lang/invoke/MethodHandle" ∧ y.cls ≠ "java/lang/invoke/VarHandle") ∧
  (∀ sig, parseMethodDescriptor y.desc = some sig → n = sig.parameters.length) ∧ (Cond.methodLink own index y).before args s = true ∧ (Cond.static y).before args s = true
theorem vx_cwSW {own : String} {index maxL mc ms : Nat} {y : MethodName} {bytes : ByteArray} {ret : Option FieldType} {hh : List (Nat × Nat × Nat × Nat)} {Ts ws ws' : List Cond} {rm : Room} (n : Nat) (ht : ∀ w ∈ Ts, w.before args s = true) (hT : GoodIn Ts (va_wsS own index y ws)) (hw : ws = Cond.codeWith y bytes maxL ret hh :: ws') (hrc : rm.cells = mc) (hrs : rm.slots = ms)
    (hd : y.cls ≠ "java/lang/invoke/MethodHandle" ∧ y.cls ≠ "java/lang/invoke/VarHandle" ∧ (parseMethodDescriptor y.desc).map (fun d => d.parameters.length) = some n) (hR : rm.frames + 1 ≤ R.frames ∧ 8 + (maxL + 11) + rm.locals ≤ R.locals) :
    vx_CSW R s args own index y bytes maxL ret hh ws rm mc ms n := by
  have ok : ∀ w ∈ va_wsS own index y ws, w.before args s = true := fun w h => ht w (hT w h).1
  have hG : GoodIn Ts ws := fun w h => hT w (by unfold va_wsS; exact List.mem_append_right _ h)
  have hc : Cond.codeWith y bytes maxL ret hh ∈ ws := by rw [hw]; exact List.mem_cons_self
  refine ⟨⟨hrc, hrs, hR.1, hR.2, pay_in ht hG, hc⟩, ht _ (hG _ hc).1, ok _ (by simp [va_wsS]), ⟨hd.1, hd.2.1⟩, fun sig h => ?_, ok _ (by simp [va_wsS]), ok _ (by simp [va_wsS])⟩
  have h2 := hd.2.2
  rw [h] at h2
  exact (Option.some.inj h2).symm
theorem vx_callSW (X : Stand p l e R s m args below meth c T locs cells slots) (hexec : p.tables.exec = Jvm.exec) {own : String} {index : Nat} {y : MethodName} {bytes : ByteArray} {maxL : Nat} {ret : Option FieldType} {hh : List (Nat × Nat × Nat × Nat)}
    (hown : s.vm.findClass own = some m.cls) (hlink : (Cond.methodLink own index y).before args s = true) (hstat : (Cond.static y).before args s = true) (hinit : (Cond.initialized y.cls).before args s = true)
    (hcode : (Cond.codeWith y bytes maxL ret hh).before args s = true) (hy : y.cls ≠ "java/lang/invoke/MethodHandle" ∧ y.cls ≠ "java/lang/invoke/VarHandle")
    {W9 : Nat} {Pre : Pt → Array Value → Prop} {Post : Pt → Array Value → Option Value → Pt → Prop} (hK : Back l R p e below s args y 3 W9 Pre Post)
    {g : JFrame} (hg : g.method = m) (hsize : g.locals.size = c.maxLocals) {argsL rest : List Value} (hlen : ∀ sig, parseMethodDescriptor y.desc = some sig → argsL.length = sig.parameters.length)
    (hstack : g.stack = argsL.reverse ++ rest) (hW : 2 * g.monitorRoom + (rest.map fun v => v.category).sum ≤ W9) (hdg : decode c.code g.pc = .ok (.invokestatic index, 3))
    (hpre : ∀ vm₁, s.WarmedH vm₁ → Pre ⟨T.setVm vm₁, locs, cells, slots⟩ argsL.toArray) :
    ∃ (v : Option Value) (vm₁ : Vm) (B : Pt), s.WarmedH vm₁ ∧ Stand p l e R s m args below meth c B.U B.locs B.cells B.slots ∧ Post ⟨T.setVm vm₁, locs, cells, slots⟩ argsL.toArray v B ∧
      ∀ target, Steps p.tables e below (B.U.setTop { g with pc := g.pc + 3, stack := v.toList ++ rest }) target → Steps p.tables e below (T.setTop g) target := by
  obtain ⟨mk, methM, cM, hnamed, hmethM, -, -, -, -, -, -, hsigM⟩ := Cond.codeWith_spec hcode
  have hstatic : methM.isStatic = true := Cond.static_spec hnamed hmethM hstat
  obtain ⟨kP, hkP, -⟩ := className_of_methodNamed hnamed
  have hinitP : kP.init = .initialized := Cond.initialized_spec (findClass_of_methodNamed hnamed) hkP hinit
  obtain ⟨vm₁, X₁, hstep₁⟩ := X.invokestatic hexec hown hlink hnamed hmethM hstatic hkP hinitP hy (g := g) hg (argsL := argsL) (rest := rest) (hlen _ hsigM) hstack hdg
  obtain ⟨v, B, X', hpost, hsteps⟩ := hK m meth c ⟨T.setVm vm₁, locs, cells, slots⟩ { g with stack := rest } (.invokestatic index) mk argsL.toArray X₁ hg hsize hdg hW (X₁.named hnamed) (hpre vm₁ X₁.warmed)
  exact ⟨v, vm₁, B, X₁.warmed, X', hpost, fun target h => hstep₁ _ fun acts => by rw [doInvoke_state]; exact hsteps.trans h⟩
theorem vx_runSW {y : MethodName} {bytes cc : ByteArray} {maxL nL mc ms n index : Nat} {ret : Option FieldType} {hh : List (Nat × Nat × Nat × Nat)} {ws : List Cond} {rm : Room} {Pc : Array Value → State → Prop} {Qc : Array Value → State → Outcome → State → Prop} {free : Addr → Prop} {Ts : List Cond} {own : String} {As rest : List Value} {g : JFrame}
    (S : CallFix p m c cc nL s args Ts own) (hM : Met l y ws rm Pc Qc mc ms free) (cw : vx_CSW R s args own index y bytes maxL ret hh ws rm mc ms n) (hp : PreS s H Pc As)
    (hg : g.method = m) (hn : As.length = n) (hsize : g.locals.size = nL) (hstack : g.stack = As.reverse ++ rest) (hW : 2 * g.monitorRoom + (rest.map fun v => v.category).sum ≤ 8) (hdg : decode cc g.pc = .ok (.invokestatic index, 3)) (hf : cells + mc ≤ R.cells ∧ slots + ms ≤ R.slots) :
    va_Run p l e R s m args below meth c H locs cells slots mc ms g rest (Qc As.toArray) (free) := by
  obtain ⟨⟨hrc, hrs, hfr, hlo, hws, hcw⟩, hcode, hini, hy, hlen, hl, hstt⟩ := cw
  have hK : Back l R p e below s args y 3 8 (PreOf R mc ms Pc) (PostOf Qc mc ms free) := va_backW (hh := hh) (bytes := bytes) (maxL := maxL) (ret := ret) hM hp.1 hrc hrs hfr hlo hws hcw (fun a' U hW => word_at hW (Or.inl (by first | rfl | simp [Cond.onTables, Cond.keeps, Cond.steady])) hini)
  obtain ⟨hx, hb, hml, ho, -⟩ := S
  intro T hT X
  obtain ⟨v, vm₁, ⟨U', l2, c2, s2⟩, hW₁, X', ⟨g', mk, t, L, e1, e2, hq, h1, hL, h2, h3⟩, st⟩ := vx_callSW X hx (hh := hh) (bytes := bytes) (maxL := maxL) (ret := ret) ho hl hstt hini hcode hy hK hg (hsize.trans hml.symm) (argsL := As) (rest := rest) (fun sig h => hn.trans (hlen sig h)) hstack hW (by rw [hb]; exact hdg)
    (fun vm₁ hW₁ => ⟨hf.1, hf.2, hp.2 (T.setVm vm₁) hT hW₁⟩)
  dsimp only [Pt.U, Pt.locs, Pt.cells, Pt.slots] at X' e1 e2 h1 h2 h3 st
  subst h1; subst h2; subst h3
  exact ⟨v, (T.setVm vm₁).calling g' mk As.toArray, t, U', L, hT, X', hL, e1, e2, hq, st⟩
/-- not caught here, past rows that name other classes: it goes on to the caller -/
theorem vx_outP {p : Program} {l : Launch} {e : Env} {R : Room} {s : State} {m : MethodId} {args : Array Value} {below : List Frame} {meth : Method} {c : Code} {H : Heap} {locs : List Loc} {cells slots : Nat} {free : Addr → Prop} {ls : Array Slot} {rest : List Value} {Qc : Array Value → State → Outcome → State → Prop} {XC : String → State → State → Prop}
    {pc : Nat} {own E : String} {ce : Cell} {q : Addr} {mc ms : Nat} (hown : s.vm.findClass own = some m.cls) (hlocks : meth.locks = false)
    (hpass : ∀ z ∈ c.exceptionTable.toList, covers z pc = false ∨ (z.catchType ≠ 0 ∧ ∃ nm : String, (Cond.classLink own z.catchType nm).before args s = true ∧ va_Nc E nm s)) (hcell : H[q]? = some ce) (hv : ce.vm = .none) (hcl : s.vm.findClass E = some ce.cls)
    (hx : ∀ t : State, t.heap = H → s.vm.Alike t.vm → XC E s t) (hf : ∀ z ∈ locs, free z.base) (hc : cells ≤ mc) (hs : slots ≤ ms) :
    vx_W p l e R s m args below meth c H locs cells slots (vx_MQ below Qc XC args s mc ms free) (F0 m pc ls rest) q := by
  intro T hT X
  have hpl : e.platform.magicAccessors = ({} : Platform).magicAccessors := by rw [X.admits.platform]
  obtain ⟨vm', hW', X', st⟩ := X.outThrough hlocks q (g := F0 m pc ls rest) rfl rfl rfl (cell := ce) (by rw [hT]; exact hcell) (by rw [hv]; rfl)
    (by obtain ⟨k9, h9, -⟩ := Vm.findClass_spec hcl; exact ⟨k9, h9⟩) (fun z hz => by
      rcases hpass z hz with h | ⟨hz0, nm, hl1, hn1⟩
      · exact Or.inl h
      · obtain ⟨c6, hc6, hcl6⟩ := Cond.classLink_spec hown hl1 e.platform hpl
        obtain ⟨a8, b8, h1, h2, h3⟩ := hn1
        cases Option.some.inj (h1.symm.trans hcl)
        cases Option.some.inj (h2.symm.trans hc6)
        exact Or.inr ⟨hz0, _, hcl6, h3⟩)
  obtain ⟨g₀, hfr⟩ := X'.frames_eq
  have hcell9 : ((T.setVm vm').setFrames (.throwing q :: below)).heap[q]? = some ce := by
    show T.heap[q]? = some ce
    rw [hT]; exact hcell
  have hend : Ended ((T.setVm vm').setFrames (.throwing q :: below)) below (.threw q) := State.frames_setFrames _ (State.cur_lt_of_frames hfr)
  refine ⟨(T.setVm vm').setFrames (.throwing q :: below), ?_, .threw q, X'.here.running, hend, Or.inr ⟨q, rfl, E, ce, locs, hx _ hT (X'.ends _).1.alike, hcell9, hv, hcl, (X'.ends _).1, (X'.ends _).2.mono hc hs, hf⟩⟩
  rw [X.pushThrowing_eq]
  exact st
/-- a thing of a world lies in the heap -/
theorem vx_lt {D : va_G} {cl : List vw_C} {ws : va_W} {H1 : Heap} (h : va_P D cl ws H1) {k : Nat} {q : Nat × va_E} (hk : ws[k]? = some q) : q.1 < H1.size := (h k q hk).lt
end VXS
/-! ===== END ===== -/
/-! ===== BEGIN methods with a table of their own: called by a name, returning or throwing ===== -/
section VXH
/-! vx_backW, vx_callVX, vx_callSX, vx_callVW, vx_runVW, vx_runVX, vx_runSX, vx_ofWH follow the same proofs as their sisters above (Free/Laws.lean, Shelf42/LK1.lean); vx_outP calls Shelf42/NT130.lean (outThrough). -/
section
variable {l : Launch} {R : Room} {p : Program} {e : Env} {below : List Frame} {s : State} {sargs : Array Value} {y : MethodName} {len W9 : Nat}
theorem vx_backW {ws : List Cond} {rm : Room} {Pc : Array Value → State → Prop} {Qc : Array Value → State → Outcome → State → Prop} {XC : String → State → State → Prop} {mc ms : Nat} {free : Addr → Prop} {bytes : ByteArray} {maxL : Nat} {ret : Option FieldType} {hh : List (Nat × Nat × Nat × Nat)}
    (hM : vx_Met l y ws rm Pc Qc XC mc ms free) (hblind : FrameBlind Pc) (hrc : rm.cells = mc) (hrs : rm.slots = ms)
    (hframes : rm.frames + 1 ≤ R.frames) (hlocals : W9 + (maxL + 11) + rm.locals ≤ R.locals)
    (hws : ∀ w ∈ ws, ∀ a' U, s.WarmedH U.vm → w.before a' U = true) (hcode : Cond.codeWith y bytes maxL ret hh ∈ ws) (hinit : ∀ a' U, s.WarmedH U.vm → (Cond.initialized y.cls).before a' U = true) :
    vx_Back l R p e below s sargs y len W9 (PreOf R mc ms Pc) (PostOf Qc mc ms free) (vx_Post XC mc ms free) := by
  intro m meth c A g ig mk a X hg hsize hdg hW hn hp
  have h1 : (headSpec ws rm).pre.before a A.U = true := atoms_intro fun w hw => hws w hw _ _ X.warmed
  have h2 : (Cond.codeWith y bytes maxL ret hh).before a A.U = true := hws _ hcode _ _ X.warmed
  have h3 : (Cond.initialized y.cls).before a A.U = true := hinit _ _ X.warmed
  have h4 : A.cells + (headSpec ws rm).room.cells ≤ R.cells := by rw [show (headSpec ws rm).room.cells = mc from hrc]; exact hp.1
  have h5 : A.slots + (headSpec ws rm).room.slots ≤ R.slots := by rw [show (headSpec ws rm).room.slots = ms from hrs]; exact hp.2.1
  have hPc : Pc a (A.U.calling g mk a) := hblind _ _ _ _ hp.2.2
  obtain ⟨U, Ls, c0, s0⟩ := A
  dsimp only [Pt.U, Pt.locs, Pt.cells, Pt.slots] at h1 h2 h3 h4 h5 X hn hPc ⊢
  obtain ⟨m9, methY, cY, hn9, hmY, hcY, -, hlY, -⟩ := Cond.codeWith_spec h2
  cases Option.some.inj (hn9.symm.trans hn)
  obtain ⟨kY, hkY, -⟩ := className_of_methodNamed hn
  have hinitY : kY.init = .initialized := Cond.initialized_spec (findClass_of_methodNamed hn) hkY h3
  have h : At U g.method c below := by rw [hg]; exact X.here
  have hlocals9 : W9 + (maxL + 11) + (headSpec ws rm).room.locals ≤ R.locals := hlocals
  have happ : (headSpec ws rm).appliesLoose y e.platform (U.calling g mk a) = true :=
    Spec.appliesLoose_calling (g := g) h hdg hn hkY hinitY
      (X.room_calling (g := g) (R' := (headSpec ws rm).room) hsize hmY hcY hframes (by rw [hlY]; omega) h4 h5) h1
  obtain ⟨mid, hmid⟩ := h.above
  have hfr : (U.setTop g).frames = (.java g :: mid) ++ below := by rw [State.frames_setTop' g h.top, hmid]; rfl
  obtain ⟨o, s₂, hsteps, -, hend, hq⟩ := Steps.callFree hM p X.admits X.cas X.clock (acts := []) hfr happ hPc trivial
  have hq' : vx_Q Qc XC mc ms free a (U.calling g mk a) o s₂ := hq
  rw [State.frames_setTop' g h.top] at hend
  obtain ⟨g₀, hg0⟩ := Option.isSome_iff_exists.mp h.top
  obtain ⟨r, hr⟩ := State.topJava?_eq_some.mp hg0
  have hr' : (({ U with heap := s₂.heap, slotsUsed := s₂.slotsUsed } : State).setVm s₂.vm).frames = .java g₀ :: r := hr
  rcases hq' with ⟨hqc, L, hfe, hL⟩ | ⟨q, rfl, E, ce, L, hx, hce, hcv, hcl, hW₂, hsm, hL⟩
  · obtain ⟨⟨v, rfl⟩, hW₂, e2, q2, q3, q4, q5, q6⟩ := id hfe
    have e3 : s₂ = ({ (U.calling g mk a).setFrames s₂.frames with heap := s₂.heap, slotsUsed := s₂.slotsUsed } : State).setVm s₂.vm := by
      have : s₂ = ({ s₂ with vm := (U.calling g mk a).vm } : State).setVm s₂.vm := rfl
      rw [e2] at this
      exact this
    obtain ⟨c₂, i₂, len₂, hc₂, hd₂, hf₂⟩ := hend
    have hW' : U.WarmedH s₂.vm := hW₂
    have hcc : c₂ = c := by
      have h1 : s₂.code? g.method = U.code? g.method := by
        rw [State.code?_eq, State.code?_eq, hW'.alike.method?]
      exact Option.some.inj (hc₂.symm.trans (h1.trans h.code))
    subst hcc
    have hlen : len₂ = len := by rw [hdg] at hd₂; cases hd₂; rfl
    subst hlen
    have hs₂ : s₂ = (({ U with heap := s₂.heap, slotsUsed := s₂.slotsUsed } : State).setVm s₂.vm).setTop { g with pc := g.pc + len₂, stack := v.toList ++ g.stack } := by
      refine e3.trans ?_
      rw [hf₂, State.calling_eq h.top, State.setFrames_setFrames, State.setTop_of_frames _ hr', hr]
      rfl
    have hsame : U.sameButNew ({ U with heap := s₂.heap, slotsUsed := s₂.slotsUsed } : State) L mc ms := by
      refine ⟨?_, q2, q3, q4, q5, q6⟩
      obtain ⟨t, ht, -⟩ := State.frames_cons hr
      show ({ U with heap := s₂.heap, slotsUsed := s₂.slotsUsed } : State) = { U.setFrames U.frames with heap := s₂.heap, slotsUsed := s₂.slotsUsed }
      rw [State.setFrames_self ht]
    subst hg
    refine Or.inl ⟨v, ⟨(({ U with heap := s₂.heap, slotsUsed := s₂.slotsUsed } : State).setVm s₂.vm), Ls ++ L, c0 + mc, s0 + ms⟩,
      ⟨X.admits, X.cas, X.clock, X.frames, X.room, X.hears, X.method, X.code, (X.here.setHeapUsed s₂.heap s₂.slotsUsed).setVm hW'.alike, X.tail, State.WarmedH.trans X.warmed hW', X.limits, X.bytes, X.same.trans (hsame.setVm s.vm)⟩,
      ⟨g, mk, s₂, L, rfl, rfl, hqc, rfl, hL, rfl, rfl⟩, ?_⟩
    show Steps p.tables e below _ ((({ U with heap := s₂.heap, slotsUsed := s₂.slotsUsed } : State).setVm s₂.vm).setTop { g with pc := g.pc + len₂, stack := v.toList ++ g.stack })
    rw [← hs₂]
    exact hsteps
  · obtain ⟨e2, q2, q3, q4, q5, q6⟩ := id hsm
    have e3 : s₂ = ({ (U.calling g mk a).setFrames s₂.frames with heap := s₂.heap, slotsUsed := s₂.slotsUsed } : State).setVm s₂.vm := by
      have : s₂ = ({ s₂ with vm := (U.calling g mk a).vm } : State).setVm s₂.vm := rfl
      rw [e2] at this
      exact this
    have hf₂ : s₂.frames = .throwing q :: .java g :: U.frames.tail := hend
    have hW' : U.WarmedH s₂.vm := hW₂
    have hs₂ : s₂ = ((({ U with heap := s₂.heap, slotsUsed := s₂.slotsUsed } : State).setVm s₂.vm).setTop g).pushFrame (.throwing q) := by
      refine e3.trans ?_
      rw [hf₂, State.calling_eq h.top, State.setFrames_setFrames, State.pushFrame, State.frames_setTop _ hr', State.setTop_of_frames _ hr', State.setFrames_setFrames, hr]
      rfl
    have hsame : U.sameButNew ({ U with heap := s₂.heap, slotsUsed := s₂.slotsUsed } : State) L mc ms := by
      refine ⟨?_, q2, q3, q4, q5, q6⟩
      obtain ⟨t, ht, -⟩ := State.frames_cons hr
      show ({ U with heap := s₂.heap, slotsUsed := s₂.slotsUsed } : State) = { U.setFrames U.frames with heap := s₂.heap, slotsUsed := s₂.slotsUsed }
      rw [State.setFrames_self ht]
    subst hg
    refine Or.inr ⟨q, ⟨(({ U with heap := s₂.heap, slotsUsed := s₂.slotsUsed } : State).setVm s₂.vm), Ls ++ L, c0 + mc, s0 + ms⟩,
      ⟨X.admits, X.cas, X.clock, X.frames, X.room, X.hears, X.method, X.code, (X.here.setHeapUsed s₂.heap s₂.slotsUsed).setVm hW'.alike, X.tail, State.WarmedH.trans X.warmed hW', X.limits, X.bytes, X.same.trans (hsame.setVm s.vm)⟩,
      ⟨g, mk, s₂, L, E, ce, rfl, rfl, hx, hce, hcv, hcl, rfl, hL, rfl, rfl⟩, ?_⟩
    show Steps p.tables e below _ (((({ U with heap := s₂.heap, slotsUsed := s₂.slotsUsed } : State).setVm s₂.vm).setTop g).pushFrame (.throwing q))
    rw [← hs₂]
    exact hsteps
end
variable {p : Program} {l : Launch} {e : Env} {R : Room} {s : State} {m : MethodId} {args : Array Value} {below : List Frame} {meth : Method} {c : Code} {T : State} {H : Heap} {locs : List Loc} {cells slots : Nat}
theorem vx_callVX (X : Stand p l e R s m args below meth c T locs cells slots) (hexec : p.tables.exec = Jvm.exec) {own C : String} {index : Nat} {y : MethodName} {bytes : ByteArray} {maxL : Nat} {ret : Option FieldType} {hh : List (Nat × Nat × Nat × Nat)}
    (hown : s.vm.findClass own = some m.cls) (hlink : (Cond.methodLink own index y).before args s = true) (hinst : (Cond.instanceMethod y).before args s = true) (hsel : (Cond.selects C y y).before args s = true)
    (hcode : (Cond.codeWith y bytes maxL ret hh).before args s = true) (hy : y.cls ≠ "java/lang/invoke/MethodHandle" ∧ y.cls ≠ "java/lang/invoke/VarHandle")
    {W9 : Nat} {Pre : Pt → Array Value → Prop} {Post : Pt → Array Value → Option Value → Pt → Prop} {PostX : Pt → Array Value → Addr → Pt → Prop} (hK : vx_Back l R p e below s args y 3 W9 Pre Post PostX)
    {b : Addr} {cellB : Cell} (hcell : T.heap[b]? = some cellB) (hobj : cellB.vm.isStatics = false) (hcls : s.vm.findClass C = some cellB.cls)
    {g : JFrame} (hg : g.method = m) (hsize : g.locals.size = c.maxLocals) {argsL rest : List Value} (hlen : ∀ sig, parseMethodDescriptor y.desc = some sig → argsL.length = sig.parameters.length)
    (hstack : g.stack = argsL.reverse ++ .ref b :: rest) (hW : 2 * g.monitorRoom + (rest.map fun v => v.category).sum ≤ W9) (hdg : decode c.code g.pc = .ok (.invokevirtual index, 3))
    (hpre : ∀ vm₁, s.WarmedH vm₁ → Pre ⟨T.setVm vm₁, locs, cells, slots⟩ (Value.ref b :: argsL).toArray) :
    (∃ (v : Option Value) (vm₁ : Vm) (B : Pt), s.WarmedH vm₁ ∧ Stand p l e R s m args below meth c B.U B.locs B.cells B.slots ∧ Post ⟨T.setVm vm₁, locs, cells, slots⟩ (Value.ref b :: argsL).toArray v B ∧
      ∀ target, Steps p.tables e below (B.U.setTop { g with pc := g.pc + 3, stack := v.toList ++ rest }) target → Steps p.tables e below (T.setTop g) target) ∨
    (∃ (q : Addr) (vm₁ : Vm) (B : Pt), s.WarmedH vm₁ ∧ Stand p l e R s m args below meth c B.U B.locs B.cells B.slots ∧ PostX ⟨T.setVm vm₁, locs, cells, slots⟩ (Value.ref b :: argsL).toArray q B ∧
      Steps p.tables e below (T.setTop g) ((B.U.setTop { g with stack := rest }).pushFrame (.throwing q))) := by
  obtain ⟨mk, methM, hnamed, hmethM, hstM, habM⟩ := Cond.instanceMethod_spec hinst
  obtain ⟨m8, methM', cM, hn8, hmethM', -, -, -, -, -, -, hsigM⟩ := Cond.codeWith_spec hcode
  cases Option.some.inj (hn8.symm.trans hnamed)
  cases hmethM.symm.trans hmethM'
  obtain ⟨c2, r2, m2, q1, q2, q3, q4, kP, hkP, hkPi⟩ := Cond.selects_spec hsel
  cases hcls.symm.trans q1
  cases (State.methodFound?_of_named hnamed hy).symm.trans q2
  cases hnamed.symm.trans q3
  have hselP : selectMethod e.platform s.vm cellB.cls mk = .method mk := by rw [Launch.admits_selectMethod X.admits]; exact q4
  obtain ⟨vm₁, X₁, hstep₁⟩ := X.invokevirtual hexec hown hlink hnamed hmethM hstM hkP hkPi hy (a := b) (cell := cellB) hcell
    (fun z h => by rw [h] at hobj; cases hobj) hselP hmethM habM hkP hkPi (g := g) hg (argsL := argsL) (rest := rest) (hlen _ hsigM) hstack hdg
  rcases hK m meth c ⟨T.setVm vm₁, locs, cells, slots⟩ { g with stack := rest } (.invokevirtual index) mk (Value.ref b :: argsL).toArray X₁ hg hsize hdg hW (X₁.named hnamed) (hpre vm₁ X₁.warmed) with ⟨v, B, X', hpost, hsteps⟩ | ⟨q, B, X', hpost, hsteps⟩
  · exact Or.inl ⟨v, vm₁, B, X₁.warmed, X', hpost, fun target h => hstep₁ _ fun acts => by rw [doInvoke_state]; exact hsteps.trans h⟩
  · exact Or.inr ⟨q, vm₁, B, X₁.warmed, X', hpost, hstep₁ _ fun acts => by rw [doInvoke_state]; exact hsteps⟩
theorem vx_callSX (X : Stand p l e R s m args below meth c T locs cells slots) (hexec : p.tables.exec = Jvm.exec) {own : String} {index : Nat} {y : MethodName} {bytes : ByteArray} {maxL : Nat} {ret : Option FieldType} {hh : List (Nat × Nat × Nat × Nat)}
    (hown : s.vm.findClass own = some m.cls) (hlink : (Cond.methodLink own index y).before args s = true) (hstat : (Cond.static y).before args s = true) (hinit : (Cond.initialized y.cls).before args s = true)
    (hcode : (Cond.codeWith y bytes maxL ret hh).before args s = true) (hy : y.cls ≠ "java/lang/invoke/MethodHandle" ∧ y.cls ≠ "java/lang/invoke/VarHandle")
    {W9 : Nat} {Pre : Pt → Array Value → Prop} {Post : Pt → Array Value → Option Value → Pt → Prop} {PostX : Pt → Array Value → Addr → Pt → Prop} (hK : vx_Back l R p e below s args y 3 W9 Pre Post PostX)
    {g : JFrame} (hg : g.method = m) (hsize : g.locals.size = c.maxLocals) {argsL rest : List Value} (hlen : ∀ sig, parseMethodDescriptor y.desc = some sig → argsL.length = sig.parameters.length)
    (hstack : g.stack = argsL.reverse ++ rest) (hW : 2 * g.monitorRoom + (rest.map fun v => v.category).sum ≤ W9) (hdg : decode c.code g.pc = .ok (.invokestatic index, 3))
    (hpre : ∀ vm₁, s.WarmedH vm₁ → Pre ⟨T.setVm vm₁, locs, cells, slots⟩ argsL.toArray) :
    (∃ (v : Option Value) (vm₁ : Vm) (B : Pt), s.WarmedH vm₁ ∧ Stand p l e R s m args below meth c B.U B.locs B.cells B.slots ∧ Post ⟨T.setVm vm₁, locs, cells, slots⟩ argsL.toArray v B ∧
      ∀ target, Steps p.tables e below (B.U.setTop { g with pc := g.pc + 3, stack := v.toList ++ rest }) target → Steps p.tables e below (T.setTop g) target) ∨
    (∃ (q : Addr) (vm₁ : Vm) (B : Pt), s.WarmedH vm₁ ∧ Stand p l e R s m args below meth c B.U B.locs B.cells B.slots ∧ PostX ⟨T.setVm vm₁, locs, cells, slots⟩ argsL.toArray q B ∧
      Steps p.tables e below (T.setTop g) ((B.U.setTop { g with stack := rest }).pushFrame (.throwing q))) := by
  obtain ⟨mk, methM, cM, hnamed, hmethM, -, -, -, -, -, -, hsigM⟩ := Cond.codeWith_spec hcode
  have hstatic : methM.isStatic = true := Cond.static_spec hnamed hmethM hstat
  obtain ⟨kP, hkP, -⟩ := className_of_methodNamed hnamed
  have hinitP : kP.init = .initialized := Cond.initialized_spec (findClass_of_methodNamed hnamed) hkP hinit
  obtain ⟨vm₁, X₁, hstep₁⟩ := X.invokestatic hexec hown hlink hnamed hmethM hstatic hkP hinitP hy (g := g) hg (argsL := argsL) (rest := rest) (hlen _ hsigM) hstack hdg
  rcases hK m meth c ⟨T.setVm vm₁, locs, cells, slots⟩ { g with stack := rest } (.invokestatic index) mk argsL.toArray X₁ hg hsize hdg hW (X₁.named hnamed) (hpre vm₁ X₁.warmed) with ⟨v, B, X', hpost, hsteps⟩ | ⟨q, B, X', hpost, hsteps⟩
  · exact Or.inl ⟨v, vm₁, B, X₁.warmed, X', hpost, fun target h => hstep₁ _ fun acts => by rw [doInvoke_state]; exact hsteps.trans h⟩
  · exact Or.inr ⟨q, vm₁, B, X₁.warmed, X', hpost, hstep₁ _ fun acts => by rw [doInvoke_state]; exact hsteps⟩
theorem vx_callVW (X : Stand p l e R s m args below meth c T locs cells slots) (hexec : p.tables.exec = Jvm.exec) {own C : String} {index : Nat} {y : MethodName} {bytes : ByteArray} {maxL : Nat} {ret : Option FieldType} {hh : List (Nat × Nat × Nat × Nat)}
    (hown : s.vm.findClass own = some m.cls) (hlink : (Cond.methodLink own index y).before args s = true) (hinst : (Cond.instanceMethod y).before args s = true) (hsel : (Cond.selects C y y).before args s = true)
    (hcode : (Cond.codeWith y bytes maxL ret hh).before args s = true) (hy : y.cls ≠ "java/lang/invoke/MethodHandle" ∧ y.cls ≠ "java/lang/invoke/VarHandle")
    {W9 : Nat} {Pre : Pt → Array Value → Prop} {Post : Pt → Array Value → Option Value → Pt → Prop} (hK : Back l R p e below s args y 3 W9 Pre Post)
    {b : Addr} {cellB : Cell} (hcell : T.heap[b]? = some cellB) (hobj : cellB.vm.isStatics = false) (hcls : s.vm.findClass C = some cellB.cls)
    {g : JFrame} (hg : g.method = m) (hsize : g.locals.size = c.maxLocals) {argsL rest : List Value} (hlen : ∀ sig, parseMethodDescriptor y.desc = some sig → argsL.length = sig.parameters.length)
    (hstack : g.stack = argsL.reverse ++ .ref b :: rest) (hW : 2 * g.monitorRoom + (rest.map fun v => v.category).sum ≤ W9) (hdg : decode c.code g.pc = .ok (.invokevirtual index, 3))
    (hpre : ∀ vm₁, s.WarmedH vm₁ → Pre ⟨T.setVm vm₁, locs, cells, slots⟩ (Value.ref b :: argsL).toArray) :
    ∃ (v : Option Value) (vm₁ : Vm) (B : Pt), s.WarmedH vm₁ ∧ Stand p l e R s m args below meth c B.U B.locs B.cells B.slots ∧ Post ⟨T.setVm vm₁, locs, cells, slots⟩ (Value.ref b :: argsL).toArray v B ∧
      ∀ target, Steps p.tables e below (B.U.setTop { g with pc := g.pc + 3, stack := v.toList ++ rest }) target → Steps p.tables e below (T.setTop g) target := by
  obtain ⟨mk, methM, hnamed, hmethM, hstM, habM⟩ := Cond.instanceMethod_spec hinst
  obtain ⟨m8, methM', cM, hn8, hmethM', -, -, -, -, -, -, hsigM⟩ := Cond.codeWith_spec hcode
  cases Option.some.inj (hn8.symm.trans hnamed)
  cases hmethM.symm.trans hmethM'
  obtain ⟨c2, r2, m2, q1, q2, q3, q4, kP, hkP, hkPi⟩ := Cond.selects_spec hsel
  cases hcls.symm.trans q1
  cases (State.methodFound?_of_named hnamed hy).symm.trans q2
  cases hnamed.symm.trans q3
  have hselP : selectMethod e.platform s.vm cellB.cls mk = .method mk := by rw [Launch.admits_selectMethod X.admits]; exact q4
  obtain ⟨vm₁, X₁, hstep₁⟩ := X.invokevirtual hexec hown hlink hnamed hmethM hstM hkP hkPi hy (a := b) (cell := cellB) hcell
    (fun z h => by rw [h] at hobj; cases hobj) hselP hmethM habM hkP hkPi (g := g) hg (argsL := argsL) (rest := rest) (hlen _ hsigM) hstack hdg
  obtain ⟨v, B, X', hpost, hsteps⟩ := hK m meth c ⟨T.setVm vm₁, locs, cells, slots⟩ { g with stack := rest } (.invokevirtual index) mk (Value.ref b :: argsL).toArray X₁ hg hsize hdg hW (X₁.named hnamed) (hpre vm₁ X₁.warmed)
  exact ⟨v, vm₁, B, X₁.warmed, X', hpost, fun target h => hstep₁ _ fun acts => by rw [doInvoke_state]; exact hsteps.trans h⟩
abbrev vx_CVW (R : Room) (s : State) (args : Array Value) (own C : String) (index : Nat) (y : MethodName) (bytes : ByteArray) (maxL : Nat) (ret : Option FieldType) (hh : List (Nat × Nat × Nat × Nat)) (ws : List Cond) (rm : Room) (mc ms n : Nat) : Prop :=
  (rm.cells = mc ∧ rm.slots = ms ∧ rm.frames + 1 ≤ R.frames ∧ 8 + (maxL + 11) + rm.locals ≤ R.locals ∧ (∀ w ∈ ws, ∀ (a' : Array Value) (U : State), s.WarmedH U.vm → w.before a' U = true) ∧ Cond.codeWith y bytes maxL ret hh ∈ ws) ∧
  (Cond.codeWith y bytes maxL ret hh).before args s = true ∧ (Cond.initialized y.cls).before args s = true ∧ (y.cls ≠ "java/lang/invoke/MethodHandle" ∧ y.cls ≠ "java/lang/invoke/VarHandle") ∧
  (∀ sig, parseMethodDescriptor y.desc = some sig → n = sig.parameters.length) ∧ (Cond.methodLink own index y).before args s = true ∧ (Cond.instanceMethod y).before args s = true ∧ (Cond.selects C y y).before args s = true
theorem vx_cwVW {own C : String} {index maxL mc ms : Nat} {y : MethodName} {bytes : ByteArray} {ret : Option FieldType} {hh : List (Nat × Nat × Nat × Nat)} {Ts ws ws' : List Cond} {rm : Room} (n : Nat) (ht : ∀ w ∈ Ts, w.before args s = true) (hT : GoodIn Ts (wsV own index C y ws)) (hw : ws = Cond.codeWith y bytes maxL ret hh :: ws') (hrc : rm.cells = mc) (hrs : rm.slots = ms)
    (hd : y.cls = C ∧ y.cls ≠ "java/lang/invoke/MethodHandle" ∧ y.cls ≠ "java/lang/invoke/VarHandle" ∧ (parseMethodDescriptor y.desc).map (fun d => d.parameters.length) = some n) (hR : rm.frames + 1 ≤ R.frames ∧ 8 + (maxL + 11) + rm.locals ≤ R.locals) :
    vx_CVW R s args own C index y bytes maxL ret hh ws rm mc ms n := by
  obtain ⟨hC, hd⟩ := hd
  subst hC
  have ok : ∀ w ∈ wsV own index y.cls y ws, w.before args s = true := fun w h => ht w (hT w h).1
  have hG : GoodIn Ts ws := fun w h => hT w (by unfold wsV; exact List.mem_append_right _ h)
  have hc : Cond.codeWith y bytes maxL ret hh ∈ ws := by rw [hw]; exact List.mem_cons_self
  refine ⟨⟨hrc, hrs, hR.1, hR.2, pay_in ht hG, hc⟩, ht _ (hG _ hc).1, ok _ (by simp [wsV]), ⟨hd.1, hd.2.1⟩, fun sig h => ?_, ok _ (by simp [wsV]), ok _ (by simp [wsV]), ok _ (by simp [wsV])⟩
  have h2 := hd.2.2
  rw [h] at h2
  exact (Option.some.inj h2).symm
theorem vx_runVW {y : MethodName} {bytes cc : ByteArray} {maxL nL mc ms n index : Nat} {ret : Option FieldType} {hh : List (Nat × Nat × Nat × Nat)} {ws : List Cond} {rm : Room} {Pc : Array Value → State → Prop} {Qc : Array Value → State → Outcome → State → Prop} {free : Addr → Prop} {Ts : List Cond} {own C : String} {b : Addr} {As rest : List Value} {g : JFrame}
    (S : CallFix p m c cc nL s args Ts own) (hM : Met l y ws rm Pc Qc mc ms free) (cw : vx_CVW R s args own C index y bytes maxL ret hh ws rm mc ms n) (hp : PreV s H C b Pc As)
    (hg : g.method = m) (hn : As.length = n) (hsize : g.locals.size = nL) (hstack : g.stack = As.reverse ++ .ref b :: rest) (hW : 2 * g.monitorRoom + (rest.map fun v => v.category).sum ≤ 8) (hdg : decode cc g.pc = .ok (.invokevirtual index, 3)) (hf : cells + mc ≤ R.cells ∧ slots + ms ≤ R.slots) :
    va_Run p l e R s m args below meth c H locs cells slots mc ms g rest (Qc (Value.ref b :: As).toArray) free := by
  obtain ⟨⟨hrc, hrs, hfr, hlo, hws, hcw⟩, hcode, hini, hy, hlen, hl, hin, hse⟩ := cw
  have hK : Back l R p e below s args y 3 8 (PreOf R mc ms Pc) (PostOf Qc mc ms free) := va_backW (hh := hh) (bytes := bytes) (maxL := maxL) (ret := ret) hM hp.1 hrc hrs hfr hlo hws hcw (fun a' U hW => word_at hW (Or.inl (by first | rfl | simp [Cond.onTables, Cond.keeps, Cond.steady])) hini)
  obtain ⟨hx, hb, hml, ho, -⟩ := S
  obtain ⟨-, ⟨cellB, hcB, hoB, hclB⟩, hPc⟩ := hp
  intro T hT X
  obtain ⟨v, vm₁, ⟨U', l2, c2, s2⟩, hW₁, X', ⟨g', mk, t, L, e1, e2, hq, h1, hL, h2, h3⟩, st⟩ := vx_callVW X hx (C := C) (hh := hh) (bytes := bytes) (maxL := maxL) (ret := ret) ho hl hin hse hcode hy hK (by rw [hT]; exact hcB) hoB hclB hg (hsize.trans hml.symm) (argsL := As) (rest := rest) (fun sig h => hn.trans (hlen sig h)) hstack hW (by rw [hb]; exact hdg)
    (fun vm₁ hW₁ => ⟨hf.1, hf.2, hPc (T.setVm vm₁) hT hW₁⟩)
  dsimp only [Pt.U, Pt.locs, Pt.cells, Pt.slots] at X' e1 e2 h1 h2 h3 st
  subst h1; subst h2; subst h3
  exact ⟨v, (T.setVm vm₁).calling g' mk (Value.ref b :: As).toArray, t, U', L, hT, X', hL, e1, e2, hq, st⟩
section
variable {y : MethodName} {bytes cc : ByteArray} {maxL nL mc ms n index : Nat} {ret : Option FieldType} {ws : List Cond} {rm : Room} {Pc : Array Value → State → Prop} {Qc : Array Value → State → Outcome → State → Prop} {XC : String → State → State → Prop} {free : Addr → Prop} {Ts : List Cond} {own C : String} {b : Addr} {As rest : List Value} {g : JFrame}
theorem vx_runVX {hh : List (Nat × Nat × Nat × Nat)} (S : CallFix p m c cc nL s args Ts own) (hM : vx_Met l y ws rm Pc Qc XC mc ms free) (cw : vx_CVW R s args own C index y bytes maxL ret hh ws rm mc ms n) (hp : PreV s H C b Pc As)
    (hg : g.method = m) (hn : As.length = n) (hsize : g.locals.size = nL) (hstack : g.stack = As.reverse ++ .ref b :: rest) (hW : 2 * g.monitorRoom + (rest.map fun v => v.category).sum ≤ 8) (hdg : decode cc g.pc = .ok (.invokevirtual index, 3)) (hf : cells + mc ≤ R.cells ∧ slots + ms ≤ R.slots) :
    vx_Run p l e R s m args below meth c H locs cells slots mc ms g rest (Qc (Value.ref b :: As).toArray) XC free := by
  obtain ⟨⟨hrc, hrs, hfr, hlo, hws, hcw⟩, hcode, hini, hy, hlen, hl, hin, hse⟩ := cw
  have hK : vx_Back l R p e below s args y 3 8 (PreOf R mc ms Pc) (PostOf Qc mc ms free) (vx_Post XC mc ms free) := vx_backW (hh := hh) (bytes := bytes) (maxL := maxL) (ret := ret) hM hp.1 hrc hrs hfr hlo hws hcw (fun a' U hW => word_at hW (Or.inl (by first | rfl | simp [Cond.onTables, Cond.keeps, Cond.steady])) hini)
  obtain ⟨hx, hb, hml, ho, -⟩ := S
  obtain ⟨-, ⟨cellB, hcB, hoB, hclB⟩, hPc⟩ := hp
  intro T hT X
  rcases vx_callVX X hx (C := C) (hh := hh) (bytes := bytes) (maxL := maxL) (ret := ret) ho hl hin hse hcode hy hK (by rw [hT]; exact hcB) hoB hclB hg (hsize.trans hml.symm) (argsL := As) (rest := rest) (fun sig h => hn.trans (hlen sig h)) hstack hW (by rw [hb]; exact hdg)
    (fun vm₁ hW₁ => ⟨hf.1, hf.2, hPc (T.setVm vm₁) hT hW₁⟩) with ⟨v, vm₁, ⟨U', l2, c2, s2⟩, hW₁, X', ⟨g', mk, t, L, e1, e2, hq, h1, hL, h2, h3⟩, st⟩ | ⟨q, vm₁, ⟨U', l2, c2, s2⟩, hW₁, X', ⟨g', mk, t, L, E, ce, e1, e2, hq, hce, hcv, hcl, h1, hL, h2, h3⟩, st⟩
  · dsimp only [Pt.U, Pt.locs, Pt.cells, Pt.slots] at X' e1 e2 h1 h2 h3 st
    subst h1; subst h2; subst h3
    exact Or.inl ⟨v, (T.setVm vm₁).calling g' mk (Value.ref b :: As).toArray, t, U', L, hT, X', hL, e1, e2, hq, st⟩
  · dsimp only [Pt.U, Pt.locs, Pt.cells, Pt.slots] at X' e1 e2 h1 h2 h3 st hcl
    subst h1; subst h2; subst h3
    exact Or.inr ⟨q, (T.setVm vm₁).calling g' mk (Value.ref b :: As).toArray, t, U', L, E, ce, hT, X', hL, e1, e2, hq, hce, hcv, vx_cls hW₁ hcl, st⟩
theorem vx_runSX {hh : List (Nat × Nat × Nat × Nat)} (S : CallFix p m c cc nL s args Ts own) (hM : vx_Met l y ws rm Pc Qc XC mc ms free) (cw : vx_CSW R s args own index y bytes maxL ret hh ws rm mc ms n) (hp : PreS s H Pc As)
    (hg : g.method = m) (hn : As.length = n) (hsize : g.locals.size = nL) (hstack : g.stack = As.reverse ++ rest) (hW : 2 * g.monitorRoom + (rest.map fun v => v.category).sum ≤ 8) (hdg : decode cc g.pc = .ok (.invokestatic index, 3)) (hf : cells + mc ≤ R.cells ∧ slots + ms ≤ R.slots) :
    vx_Run p l e R s m args below meth c H locs cells slots mc ms g rest (Qc As.toArray) XC free := by
  obtain ⟨⟨hrc, hrs, hfr, hlo, hws, hcw⟩, hcode, hini, hy, hlen, hl, hstt⟩ := cw
  have hK : vx_Back l R p e below s args y 3 8 (PreOf R mc ms Pc) (PostOf Qc mc ms free) (vx_Post XC mc ms free) := vx_backW (hh := hh) (bytes := bytes) (maxL := maxL) (ret := ret) hM hp.1 hrc hrs hfr hlo hws hcw (fun a' U hW => word_at hW (Or.inl (by first | rfl | simp [Cond.onTables, Cond.keeps, Cond.steady])) hini)
  obtain ⟨hx, hb, hml, ho, -⟩ := S
  intro T hT X
  rcases vx_callSX X hx (hh := hh) (bytes := bytes) (maxL := maxL) (ret := ret) ho hl hstt hini hcode hy hK hg (hsize.trans hml.symm) (argsL := As) (rest := rest) (fun sig h => hn.trans (hlen sig h)) hstack hW (by rw [hb]; exact hdg)
    (fun vm₁ hW₁ => ⟨hf.1, hf.2, hp.2 (T.setVm vm₁) hT hW₁⟩) with ⟨v, vm₁, ⟨U', l2, c2, s2⟩, hW₁, X', ⟨g', mk, t, L, e1, e2, hq, h1, hL, h2, h3⟩, st⟩ | ⟨q, vm₁, ⟨U', l2, c2, s2⟩, hW₁, X', ⟨g', mk, t, L, E, ce, e1, e2, hq, hce, hcv, hcl, h1, hL, h2, h3⟩, st⟩
  · dsimp only [Pt.U, Pt.locs, Pt.cells, Pt.slots] at X' e1 e2 h1 h2 h3 st
    subst h1; subst h2; subst h3
    exact Or.inl ⟨v, (T.setVm vm₁).calling g' mk As.toArray, t, U', L, hT, X', hL, e1, e2, hq, st⟩
  · dsimp only [Pt.U, Pt.locs, Pt.cells, Pt.slots] at X' e1 e2 h1 h2 h3 st hcl
    subst h1; subst h2; subst h3
    exact Or.inr ⟨q, (T.setVm vm₁).calling g' mk As.toArray, t, U', L, E, ce, hT, X', hL, e1, e2, hq, hce, hcv, vx_cls hW₁ hcl, st⟩
end
end VXH
theorem vx_ofWH {l : Launch} {y : MethodName} {ws ws' : List Cond} {rm : Room} {Pc : Array Value → State → Prop} {Qc : Array Value → State → Outcome → State → Prop} {XC : String → State → State → Prop} {mc ms : Nat} {free : Addr → Prop} {cc : ByteArray} {maxL : Nat} {ret : Option FieldType} {hh : List (Nat × Nat × Nat × Nat)}
    (hy : plainName y.cls = true) (hw : ws = Cond.codeWith y cc maxL ret hh :: ws')
    (body : ∀ p e s m args below meth c s₁, BodyLoose p l y (headSpec ws rm) cc maxL ret e s m args below meth c s₁ → c.maxLocals = maxL → Pc args s →
      W p l e (headSpec ws rm).room s m args below meth c s.heap [] 0 0 (vx_MQ below Qc XC args s mc ms free) (entryFrame m args maxL)) : vx_Met l y ws rm Pc Qc XC mc ms free := by
  refine MetFree.of_bodyS (code := cc) (maxLocals := maxL) (ret := ret) hy ?_ ?_
  · intro args s m h hn
    obtain ⟨m9, meth, c, hn9, h1, h2, h3, h4, -, h5, h6, -⟩ := Cond.codeWith_spec (atoms_spec (ws := ws) h _ (by rw [hw]; exact List.mem_cons_self))
    cases hn.symm.trans hn9
    exact ⟨meth, c, h1, h2, h3, h4, h5, h6⟩
  · intro p e s m args below meth c s₁ B hml hP _
    have hh0 : s₁.heap = s.heap := by rw [B.state]; rfl
    obtain ⟨t, a1, o, b1, b2, b3⟩ := body p e s m args below meth c s₁ B hml hP s₁ hh0 (Stand.of_body B)
    exact ⟨t, o, a1, b1, b2, b3⟩
/-! ===== END ===== -/
end
section
def RX0 : String := "UnionList$Accounts"
def TX0 : u_T := fun k => match k with
  | 0 => ("UnionList$Accounts", "debts", "[I", true)
  | 1 => ("UnionList$Accounts", "homeCopies", "[I", true)
  | _ => ("UnionList$Accounts", "freeLoans", "[I", true)
def tyX0 : Nat → FieldType := fun k => match k with
  | 0 => .array .int
  | 1 => .array .int
  | _ => .array .int
abbrev wsX00 : List Cond := u_ws RX0 TX0 3
theorem nmX0 : ∀ a, a < 3 → ∀ b, b < 3 → a ≠ b → (TX0 a).2.1 ≠ (TX0 b).2.1 := by decide +kernel
theorem tyX0_ok : ∀ k, k < 3 → parseFieldDescriptor (TX0 k).2.2.1 = some (tyX0 k) := by decide +kernel
abbrev cX0_init : ByteArray := prog_2_method_1_code
def yX0_init : MethodName := ⟨RX0, "<init>", "()V"⟩
abbrev cX0_countHomeCopy : ByteArray := prog_2_method_2_code
def yX0_countHomeCopy : MethodName := ⟨RX0, "countHomeCopy", "(I)V"⟩
abbrev cX0_beginQuarter : ByteArray := prog_2_method_3_code
def yX0_beginQuarter : MethodName := ⟨RX0, "beginQuarter", "()V"⟩
abbrev cX0_freeLoansOf : ByteArray := prog_2_method_4_code
def yX0_freeLoansOf : MethodName := ⟨RX0, "freeLoansOf", "(I)I"⟩
abbrev cX0_charge : ByteArray := prog_2_method_5_code
def yX0_charge : MethodName := ⟨RX0, "charge", "(III)V"⟩
abbrev cX0_chargeLoan : ByteArray := prog_2_method_6_code
def yX0_chargeLoan : MethodName := ⟨RX0, "chargeLoan", "(II)V"⟩
abbrev cX0_balance : ByteArray := prog_2_method_7_code
def yX0_balance : MethodName := ⟨RX0, "balance", "(II)I"⟩
abbrev cX0_clearDebts : ByteArray := prog_2_method_8_code
def yX0_clearDebts : MethodName := ⟨RX0, "clearDebts", "()I"⟩
def RX1 : String := "UnionList$Copy"
def TX1 : u_T := fun k => match k with
  | 0 => ("UnionList$Copy", "number", "I", true)
  | 1 => ("UnionList$Copy", "home", "I", true)
  | 2 => ("UnionList$Copy", "title", "I", true)
  | 3 => ("UnionList$Copy", "holder", "I", false)
  | 4 => ("UnionList$Copy", "onItsWay", "Z", false)
  | 5 => ("UnionList$Copy", "knownToList", "I", false)
  | 6 => ("UnionList$Copy", "harmedBy", "I", false)
  | _ => ("UnionList$Copy", "harmKnown", "Z", false)
def tyX1 : Nat → FieldType := fun k => match k with
  | 0 => .int
  | 1 => .int
  | 2 => .int
  | 3 => .int
  | 4 => .boolean
  | 5 => .int
  | 6 => .int
  | _ => .boolean
abbrev wsX10 : List Cond := u_ws RX1 TX1 8
theorem nmX1 : ∀ a, a < 8 → ∀ b, b < 8 → a ≠ b → (TX1 a).2.1 ≠ (TX1 b).2.1 := by decide +kernel
theorem tyX1_ok : ∀ k, k < 8 → parseFieldDescriptor (TX1 k).2.2.1 = some (tyX1 k) := by decide +kernel
abbrev cX1_init : ByteArray := prog_3_method_1_code
def yX1_init : MethodName := ⟨RX1, "<init>", "(III)V"⟩
abbrev cX1_isAtHome : ByteArray := prog_3_method_2_code
def yX1_isAtHome : MethodName := ⟨RX1, "isAtHome", "()Z"⟩
abbrev cX1_isHarmed : ByteArray := prog_3_method_3_code
def yX1_isHarmed : MethodName := ⟨RX1, "isHarmed", "()Z"⟩
abbrev cX1_canBeSent : ByteArray := prog_3_method_4_code
def yX1_canBeSent : MethodName := ⟨RX1, "canBeSent", "()Z"⟩
def RX2 : String := "UnionList$Post"
def TX2 : u_T := fun k => match k with
  | 0 => ("UnionList$Post", "waiting", "[LUnionList$Sent;", true)
  | _ => ("UnionList$Post", "size", "I", false)
def tyX2 : Nat → FieldType := fun k => match k with
  | 0 => .array (.object "UnionList$Sent")
  | _ => .int
abbrev wsX20 : List Cond := u_ws RX2 TX2 2
theorem nmX2 : ∀ a, a < 2 → ∀ b, b < 2 → a ≠ b → (TX2 a).2.1 ≠ (TX2 b).2.1 := by decide +kernel
theorem tyX2_ok : ∀ k, k < 2 → parseFieldDescriptor (TX2 k).2.2.1 = some (tyX2 k) := by decide +kernel
abbrev cX2_init : ByteArray := prog_4_method_1_code
def yX2_init : MethodName := ⟨RX2, "<init>", "(I)V"⟩
abbrev cX2_put : ByteArray := prog_4_method_2_code
def yX2_put : MethodName := ⟨RX2, "put", "(LUnionList$Sent;)V"⟩
abbrev cX2_takeArrived : ByteArray := prog_4_method_3_code
def yX2_takeArrived : MethodName := ⟨RX2, "takeArrived", "(I)LUnionList$Sent;"⟩
def RX3 : String := "UnionList$Request"
def TX3 : u_T := fun k => match k with
  | 0 => ("UnionList$Request", "house", "I", true)
  | 1 => ("UnionList$Request", "title", "I", true)
  | 2 => ("UnionList$Request", "copy", "LUnionList$Copy;", false)
  | 3 => ("UnionList$Request", "state", "I", false)
  | 4 => ("UnionList$Request", "dueDay", "I", false)
  | 5 => ("UnionList$Request", "recallSent", "Z", false)
  | _ => ("UnionList$Request", "askedHomes", "I", false)
def tyX3 : Nat → FieldType := fun k => match k with
  | 0 => .int
  | 1 => .int
  | 2 => .object "UnionList$Copy"
  | 3 => .int
  | 4 => .int
  | 5 => .boolean
  | _ => .int
abbrev wsX30 : List Cond := u_ws RX3 TX3 7
theorem nmX3 : ∀ a, a < 7 → ∀ b, b < 7 → a ≠ b → (TX3 a).2.1 ≠ (TX3 b).2.1 := by decide +kernel
theorem tyX3_ok : ∀ k, k < 7 → parseFieldDescriptor (TX3 k).2.2.1 = some (tyX3 k) := by decide +kernel
abbrev cX3_init : ByteArray := prog_5_method_1_code
def yX3_init : MethodName := ⟨RX3, "<init>", "(II)V"⟩
abbrev cX3_markAsked : ByteArray := prog_5_method_2_code
def yX3_markAsked : MethodName := ⟨RX3, "markAsked", "(I)V"⟩
abbrev cX3_mayAskFor : ByteArray := prog_5_method_3_code
def yX3_mayAskFor : MethodName := ⟨RX3, "mayAskFor", "(LUnionList$Copy;)Z"⟩
def RX4 : String := "UnionList$Sent"
def TX4 : u_T := fun k => match k with
  | 0 => ("UnionList$Sent", "kind", "I", true)
  | 1 => ("UnionList$Sent", "arrival", "I", true)
  | 2 => ("UnionList$Sent", "copy", "LUnionList$Copy;", true)
  | _ => ("UnionList$Sent", "request", "LUnionList$Request;", true)
def tyX4 : Nat → FieldType := fun k => match k with
  | 0 => .int
  | 1 => .int
  | 2 => .object "UnionList$Copy"
  | _ => .object "UnionList$Request"
abbrev wsX40 : List Cond := u_ws RX4 TX4 4
theorem nmX4 : ∀ a, a < 4 → ∀ b, b < 4 → a ≠ b → (TX4 a).2.1 ≠ (TX4 b).2.1 := by decide +kernel
theorem tyX4_ok : ∀ k, k < 4 → parseFieldDescriptor (TX4 k).2.2.1 = some (tyX4 k) := by decide +kernel
abbrev cX4_init : ByteArray := prog_6_method_1_code
def yX4_init : MethodName := ⟨RX4, "<init>", "(IILUnionList$Copy;LUnionList$Request;)V"⟩
def RX5 : String := "UnionList"
def TX5 : u_T := fun k => match k with
  | 0 => ("UnionList", "copies", "[LUnionList$Copy;", true)
  | 1 => ("UnionList", "requests", "[LUnionList$Request;", true)
  | 2 => ("UnionList", "post", "LUnionList$Post;", true)
  | 3 => ("UnionList", "accounts", "LUnionList$Accounts;", true)
  | 4 => ("UnionList", "copyCount", "I", false)
  | 5 => ("UnionList", "requestCount", "I", false)
  | _ => ("UnionList", "day", "I", false)
def tyX5 : Nat → FieldType := fun k => match k with
  | 0 => .array (.object "UnionList$Copy")
  | 1 => .array (.object "UnionList$Request")
  | 2 => .object "UnionList$Post"
  | 3 => .object "UnionList$Accounts"
  | 4 => .int
  | 5 => .int
  | _ => .int
abbrev wsX50 : List Cond := u_ws RX5 TX5 7
theorem nmX5 : ∀ a, a < 7 → ∀ b, b < 7 → a ≠ b → (TX5 a).2.1 ≠ (TX5 b).2.1 := by decide +kernel
theorem tyX5_ok : ∀ k, k < 7 → parseFieldDescriptor (TX5 k).2.2.1 = some (tyX5 k) := by decide +kernel
abbrev cX5_init : ByteArray := prog_1_method_1_code
def yX5_init : MethodName := ⟨RX5, "<init>", "()V"⟩
abbrev cX5_addCopy : ByteArray := prog_1_method_2_code
def yX5_addCopy : MethodName := ⟨RX5, "addCopy", "(II)I"⟩
abbrev cX5_inHandsOf : ByteArray := prog_1_method_3_code
def yX5_inHandsOf : MethodName := ⟨RX5, "inHandsOf", "(I)I"⟩
abbrev cX5_isFree : ByteArray := prog_1_method_4_code
def yX5_isFree : MethodName := ⟨RX5, "isFree", "(I)Z"⟩
abbrev cX5_listed : ByteArray := prog_1_method_5_code
def yX5_listed : MethodName := ⟨RX5, "listed", "(I)I"⟩
abbrev cX5_harm : ByteArray := prog_1_method_6_code
def yX5_harm : MethodName := ⟨RX5, "harm", "(I)I"⟩
abbrev cX5_look : ByteArray := prog_1_method_7_code
def yX5_look : MethodName := ⟨RX5, "look", "(I)I"⟩
abbrev cX5_mend : ByteArray := prog_1_method_8_code
def yX5_mend : MethodName := ⟨RX5, "mend", "(I)V"⟩
abbrev cX5_request : ByteArray := prog_1_method_9_code
def yX5_request : MethodName := ⟨RX5, "request", "(II)I"⟩
abbrev cX5_state : ByteArray := prog_1_method_10_code
def yX5_state : MethodName := ⟨RX5, "state", "(I)I"⟩
abbrev cX5_copyOf : ByteArray := prog_1_method_11_code
def yX5_copyOf : MethodName := ⟨RX5, "copyOf", "(I)I"⟩
abbrev cX5_due : ByteArray := prog_1_method_12_code
def yX5_due : MethodName := ⟨RX5, "due", "(I)I"⟩
abbrev cX5_renew : ByteArray := prog_1_method_13_code
def yX5_renew : MethodName := ⟨RX5, "renew", "(I)I"⟩
abbrev cX5_recall : ByteArray := prog_1_method_14_code
def yX5_recall : MethodName := ⟨RX5, "recall", "(I)I"⟩
abbrev cX5_sendBack : ByteArray := prog_1_method_15_code
def yX5_sendBack : MethodName := ⟨RX5, "sendBack", "(I)I"⟩
abbrev cX5_pass : ByteArray := prog_1_method_16_code
def yX5_pass : MethodName := ⟨RX5, "pass", "(I)I"⟩
abbrev cX5_today : ByteArray := prog_1_method_17_code
def yX5_today : MethodName := ⟨RX5, "today", "()I"⟩
abbrev cX5_owes : ByteArray := prog_1_method_18_code
def yX5_owes : MethodName := ⟨RX5, "owes", "(II)I"⟩
abbrev cX5_settle : ByteArray := prog_1_method_19_code
def yX5_settle : MethodName := ⟨RX5, "settle", "()I"⟩
abbrev cX5_quota : ByteArray := prog_1_method_20_code
def yX5_quota : MethodName := ⟨RX5, "quota", "(I)I"⟩
abbrev cX5_isHouse : ByteArray := prog_1_method_21_code
def yX5_isHouse : MethodName := ⟨RX5, "isHouse", "(I)Z"⟩
abbrev cX5_isTitle : ByteArray := prog_1_method_22_code
def yX5_isTitle : MethodName := ⟨RX5, "isTitle", "(I)Z"⟩
abbrev cX5_copyNumbered : ByteArray := prog_1_method_23_code
def yX5_copyNumbered : MethodName := ⟨RX5, "copyNumbered", "(I)LUnionList$Copy;"⟩
abbrev cX5_requestNumbered : ByteArray := prog_1_method_24_code
def yX5_requestNumbered : MethodName := ⟨RX5, "requestNumbered", "(I)LUnionList$Request;"⟩
abbrev cX5_way : ByteArray := prog_1_method_25_code
def yX5_way : MethodName := ⟨RX5, "way", "(II)I"⟩
abbrev cX5_wayToList : ByteArray := prog_1_method_26_code
def yX5_wayToList : MethodName := ⟨RX5, "wayToList", "(I)I"⟩
abbrev cX5_send : ByteArray := prog_1_method_27_code
def yX5_send : MethodName := ⟨RX5, "send", "(IILUnionList$Copy;LUnionList$Request;)I"⟩
abbrev cX5_sendNews : ByteArray := prog_1_method_28_code
def yX5_sendNews : MethodName := ⟨RX5, "sendNews", "(ILUnionList$Copy;)V"⟩
abbrev cX5_arrivalsOfNextDay : ByteArray := prog_1_method_29_code
def yX5_arrivalsOfNextDay : MethodName := ⟨RX5, "arrivalsOfNextDay", "()I"⟩
abbrev cX5_deliver : ByteArray := prog_1_method_30_code
def yX5_deliver : MethodName := ⟨RX5, "deliver", "(LUnionList$Sent;)V"⟩
abbrev cX5_askNextHome : ByteArray := prog_1_method_31_code
def yX5_askNextHome : MethodName := ⟨RX5, "askNextHome", "(LUnionList$Request;)V"⟩
abbrev cX5_nearestListedFree : ByteArray := prog_1_method_32_code
def yX5_nearestListedFree : MethodName := ⟨RX5, "nearestListedFree", "(LUnionList$Request;)LUnionList$Copy;"⟩
abbrev cX5_answerQuestion : ByteArray := prog_1_method_33_code
def yX5_answerQuestion : MethodName := ⟨RX5, "answerQuestion", "(LUnionList$Copy;LUnionList$Request;)V"⟩
abbrev cX5_beginLoan : ByteArray := prog_1_method_34_code
def yX5_beginLoan : MethodName := ⟨RX5, "beginLoan", "(LUnionList$Copy;LUnionList$Request;)V"⟩
abbrev cX5_prolong : ByteArray := prog_1_method_35_code
def yX5_prolong : MethodName := ⟨RX5, "prolong", "(LUnionList$Request;)V"⟩
abbrev cX5_shorten : ByteArray := prog_1_method_36_code
def yX5_shorten : MethodName := ⟨RX5, "shorten", "(LUnionList$Request;)V"⟩
abbrev cX5_comeHome : ByteArray := prog_1_method_37_code
def yX5_comeHome : MethodName := ⟨RX5, "comeHome", "(LUnionList$Copy;LUnionList$Request;)V"⟩
abbrev cX5_examine : ByteArray := prog_1_method_38_code
def yX5_examine : MethodName := ⟨RX5, "examine", "(LUnionList$Copy;)I"⟩
def RX6 : String := "UnionListModel"
def TX6 : u_T := fun k => match k with
  | 0 => ("UnionListModel", "home", "[I", true)
  | 1 => ("UnionListModel", "title", "[I", true)
  | 2 => ("UnionListModel", "place", "[I", true)
  | 3 => ("UnionListModel", "hands", "[I", true)
  | 4 => ("UnionListModel", "knows", "[I", true)
  | 5 => ("UnionListModel", "harmed", "[I", true)
  | 6 => ("UnionListModel", "seen", "[I", true)
  | 7 => ("UnionListModel", "copies", "I", false)
  | 8 => ("UnionListModel", "whose", "[I", true)
  | 9 => ("UnionListModel", "wanted", "[I", true)
  | 10 => ("UnionListModel", "stage", "[I", true)
  | 11 => ("UnionListModel", "loaned", "[I", true)
  | 12 => ("UnionListModel", "until", "[I", true)
  | 13 => ("UnionListModel", "asked", "[I", true)
  | 14 => ("UnionListModel", "called", "[I", true)
  | 15 => ("UnionListModel", "requests", "I", false)
  | 16 => ("UnionListModel", "kind", "[I", true)
  | 17 => ("UnionListModel", "what", "[I", true)
  | 18 => ("UnionListModel", "day", "[I", true)
  | 19 => ("UnionListModel", "under", "I", false)
  | 20 => ("UnionListModel", "debt", "[I", true)
  | 21 => ("UnionListModel", "spared", "[I", true)
  | 22 => ("UnionListModel", "now", "I", false)
  | _ => ("UnionListModel", "thrown", "I", false)
def tyX6 : Nat → FieldType := fun k => match k with
  | 0 => .array .int
  | 1 => .array .int
  | 2 => .array .int
  | 3 => .array .int
  | 4 => .array .int
  | 5 => .array .int
  | 6 => .array .int
  | 7 => .int
  | 8 => .array .int
  | 9 => .array .int
  | 10 => .array .int
  | 11 => .array .int
  | 12 => .array .int
  | 13 => .array .int
  | 14 => .array .int
  | 15 => .int
  | 16 => .array .int
  | 17 => .array .int
  | 18 => .array .int
  | 19 => .int
  | 20 => .array .int
  | 21 => .array .int
  | 22 => .int
  | _ => .int
abbrev wsX60 : List Cond := u_ws RX6 TX6 24
theorem nmX6 : ∀ a, a < 24 → ∀ b, b < 24 → a ≠ b → (TX6 a).2.1 ≠ (TX6 b).2.1 := by decide +kernel
theorem tyX6_ok : ∀ k, k < 24 → parseFieldDescriptor (TX6 k).2.2.1 = some (tyX6 k) := by decide +kernel
abbrev cX6_init : ByteArray := prog_8_method_1_code
def yX6_init : MethodName := ⟨RX6, "<init>", "()V"⟩
abbrev cX6_thrown : ByteArray := prog_8_method_2_code
def yX6_thrown : MethodName := ⟨RX6, "thrown", "()I"⟩
abbrev cX6_holds : ByteArray := prog_8_method_3_code
def yX6_holds : MethodName := ⟨RX6, "holds", "(I)Z"⟩
abbrev cX6_plain : ByteArray := prog_8_method_4_code
def yX6_plain : MethodName := ⟨RX6, "plain", "(I)I"⟩
abbrev cX6_between : ByteArray := prog_8_method_5_code
def yX6_between : MethodName := ⟨RX6, "between", "(III)Z"⟩
abbrev cX6_isHouse : ByteArray := prog_8_method_6_code
def yX6_isHouse : MethodName := ⟨RX6, "isHouse", "(I)Z"⟩
abbrev cX6_isCopy : ByteArray := prog_8_method_7_code
def yX6_isCopy : MethodName := ⟨RX6, "isCopy", "(I)Z"⟩
abbrev cX6_isRequest : ByteArray := prog_8_method_8_code
def yX6_isRequest : MethodName := ⟨RX6, "isRequest", "(I)Z"⟩
abbrev cX6_way : ByteArray := prog_8_method_9_code
def yX6_way : MethodName := ⟨RX6, "way", "(II)I"⟩
abbrev cX6_send : ByteArray := prog_8_method_10_code
def yX6_send : MethodName := ⟨RX6, "send", "(III)I"⟩
abbrev cX6_owe : ByteArray := prog_8_method_11_code
def yX6_owe : MethodName := ⟨RX6, "owe", "(III)V"⟩
abbrev cX6_free : ByteArray := prog_8_method_12_code
def yX6_free : MethodName := ⟨RX6, "free", "(I)Z"⟩
abbrev cX6_tell : ByteArray := prog_8_method_13_code
def yX6_tell : MethodName := ⟨RX6, "tell", "(II)V"⟩
abbrev cX6_addCopy : ByteArray := prog_8_method_14_code
def yX6_addCopy : MethodName := ⟨RX6, "addCopy", "(II)I"⟩
abbrev cX6_inHandsOf : ByteArray := prog_8_method_15_code
def yX6_inHandsOf : MethodName := ⟨RX6, "inHandsOf", "(I)I"⟩
abbrev cX6_isFree : ByteArray := prog_8_method_16_code
def yX6_isFree : MethodName := ⟨RX6, "isFree", "(I)Z"⟩
abbrev cX6_listed : ByteArray := prog_8_method_17_code
def yX6_listed : MethodName := ⟨RX6, "listed", "(I)I"⟩
abbrev cX6_harm : ByteArray := prog_8_method_18_code
def yX6_harm : MethodName := ⟨RX6, "harm", "(I)I"⟩
abbrev cX6_find : ByteArray := prog_8_method_19_code
def yX6_find : MethodName := ⟨RX6, "find", "(I)I"⟩
abbrev cX6_look : ByteArray := prog_8_method_20_code
def yX6_look : MethodName := ⟨RX6, "look", "(I)I"⟩
abbrev cX6_mend : ByteArray := prog_8_method_21_code
def yX6_mend : MethodName := ⟨RX6, "mend", "(I)V"⟩
abbrev cX6_ask : ByteArray := prog_8_method_22_code
def yX6_ask : MethodName := ⟨RX6, "ask", "(I)V"⟩
abbrev cX6_request : ByteArray := prog_8_method_23_code
def yX6_request : MethodName := ⟨RX6, "request", "(II)I"⟩
abbrev cX6_state : ByteArray := prog_8_method_24_code
def yX6_state : MethodName := ⟨RX6, "state", "(I)I"⟩
abbrev cX6_copyOf : ByteArray := prog_8_method_25_code
def yX6_copyOf : MethodName := ⟨RX6, "copyOf", "(I)I"⟩
abbrev cX6_refuses : ByteArray := prog_8_method_26_code
def yX6_refuses : MethodName := ⟨RX6, "refuses", "(I)I"⟩
abbrev cX6_due : ByteArray := prog_8_method_27_code
def yX6_due : MethodName := ⟨RX6, "due", "(I)I"⟩
abbrev cX6_length : ByteArray := prog_8_method_28_code
def yX6_length : MethodName := ⟨RX6, "length", "(I)I"⟩
abbrev cX6_renew : ByteArray := prog_8_method_29_code
def yX6_renew : MethodName := ⟨RX6, "renew", "(I)I"⟩
abbrev cX6_recall : ByteArray := prog_8_method_30_code
def yX6_recall : MethodName := ⟨RX6, "recall", "(I)I"⟩
abbrev cX6_sendBack : ByteArray := prog_8_method_31_code
def yX6_sendBack : MethodName := ⟨RX6, "sendBack", "(I)I"⟩
abbrev cX6_homes : ByteArray := prog_8_method_32_code
def yX6_homes : MethodName := ⟨RX6, "homes", "(I)I"⟩
abbrev cX6_answer : ByteArray := prog_8_method_33_code
def yX6_answer : MethodName := ⟨RX6, "answer", "(I)V"⟩
abbrev cX6_come : ByteArray := prog_8_method_34_code
def yX6_come : MethodName := ⟨RX6, "come", "(I)V"⟩
abbrev cX6_arrive : ByteArray := prog_8_method_35_code
def yX6_arrive : MethodName := ⟨RX6, "arrive", "(II)V"⟩
abbrev cX6_arriveAll : ByteArray := prog_8_method_36_code
def yX6_arriveAll : MethodName := ⟨RX6, "arriveAll", "()I"⟩
abbrev cX6_pass : ByteArray := prog_8_method_37_code
def yX6_pass : MethodName := ⟨RX6, "pass", "(I)I"⟩
abbrev cX6_today : ByteArray := prog_8_method_38_code
def yX6_today : MethodName := ⟨RX6, "today", "()I"⟩
abbrev cX6_owes : ByteArray := prog_8_method_39_code
def yX6_owes : MethodName := ⟨RX6, "owes", "(II)I"⟩
abbrev cX6_settle : ByteArray := prog_8_method_40_code
def yX6_settle : MethodName := ⟨RX6, "settle", "()I"⟩
abbrev cX6_quota : ByteArray := prog_8_method_41_code
def yX6_quota : MethodName := ⟨RX6, "quota", "(I)I"⟩
def RJ9 : String := "java/lang/Math"
def TJ9 : u_T := fun k => match k with
  | _ => ("", "", "", false)
def tyJ9 : Nat → FieldType := fun k => match k with
  | _ => .int
abbrev wsJ90 : List Cond := u_ws RJ9 TJ9 0
theorem nmJ9 : ∀ a, a < 0 → ∀ b, b < 0 → a ≠ b → (TJ9 a).2.1 ≠ (TJ9 b).2.1 := by decide +kernel
theorem tyJ9_ok : ∀ k, k < 0 → parseFieldDescriptor (TJ9 k).2.2.1 = some (tyJ9 k) := by decide +kernel
abbrev cJ9_abs_0f7a4 : ByteArray := prog_13_method_59_code
def yJ9_abs_0f7a4 : MethodName := ⟨RJ9, "abs", "(I)I"⟩
abbrev cJ9_max_7cf53 : ByteArray := prog_13_method_65_code
def yJ9_max_7cf53 : MethodName := ⟨RJ9, "max", "(II)I"⟩
abbrev cJ9_min_7cf53 : ByteArray := prog_13_method_69_code
def yJ9_min_7cf53 : MethodName := ⟨RJ9, "min", "(II)I"⟩
def RJ0 : String := "java/lang/String"
def TJ0 : u_T := fun k => match k with
  | _ => ("", "", "", false)
def tyJ0 : Nat → FieldType := fun k => match k with
  | _ => .int
abbrev wsJ00 : List Cond := u_ws RJ0 TJ0 0
theorem nmJ0 : ∀ a, a < 0 → ∀ b, b < 0 → a ≠ b → (TJ0 a).2.1 ≠ (TJ0 b).2.1 := by decide +kernel
theorem tyJ0_ok : ∀ k, k < 0 → parseFieldDescriptor (TJ0 k).2.2.1 = some (tyJ0 k) := by decide +kernel
def RL : String := "UnionListLaw"
abbrev cL_addCopy : ByteArray := method_3_code
def yL_addCopy : MethodName := ⟨RL, "addCopy", "(LUnionList;II[J)I"⟩
abbrev cL_inHandsOf : ByteArray := method_4_code
def yL_inHandsOf : MethodName := ⟨RL, "inHandsOf", "(LUnionList;I[J)I"⟩
abbrev cL_isFree : ByteArray := method_5_code
def yL_isFree : MethodName := ⟨RL, "isFree", "(LUnionList;I[J)I"⟩
abbrev cL_listed : ByteArray := method_6_code
def yL_listed : MethodName := ⟨RL, "listed", "(LUnionList;I[J)I"⟩
abbrev cL_harm : ByteArray := method_7_code
def yL_harm : MethodName := ⟨RL, "harm", "(LUnionList;I[J)I"⟩
abbrev cL_look : ByteArray := method_8_code
def yL_look : MethodName := ⟨RL, "look", "(LUnionList;I[J)I"⟩
abbrev cL_mend : ByteArray := method_9_code
def yL_mend : MethodName := ⟨RL, "mend", "(LUnionList;I)I"⟩
abbrev cL_request : ByteArray := method_10_code
def yL_request : MethodName := ⟨RL, "request", "(LUnionList;II[J)I"⟩
abbrev cL_state : ByteArray := method_11_code
def yL_state : MethodName := ⟨RL, "state", "(LUnionList;I[J)I"⟩
abbrev cL_copyOf : ByteArray := method_12_code
def yL_copyOf : MethodName := ⟨RL, "copyOf", "(LUnionList;I[J)I"⟩
abbrev cL_due : ByteArray := method_13_code
def yL_due : MethodName := ⟨RL, "due", "(LUnionList;I[J)I"⟩
abbrev cL_renew : ByteArray := method_14_code
def yL_renew : MethodName := ⟨RL, "renew", "(LUnionList;I[J)I"⟩
abbrev cL_recall : ByteArray := method_15_code
def yL_recall : MethodName := ⟨RL, "recall", "(LUnionList;I[J)I"⟩
abbrev cL_sendBack : ByteArray := method_16_code
def yL_sendBack : MethodName := ⟨RL, "sendBack", "(LUnionList;I[J)I"⟩
abbrev cL_pass : ByteArray := method_17_code
def yL_pass : MethodName := ⟨RL, "pass", "(LUnionList;I[J)I"⟩
abbrev cL_owes : ByteArray := method_18_code
def yL_owes : MethodName := ⟨RL, "owes", "(LUnionList;II[J)I"⟩
abbrev cL_quota : ByteArray := method_19_code
def yL_quota : MethodName := ⟨RL, "quota", "(LUnionList;I[J)I"⟩
abbrev cL_law : ByteArray := code
def yL_law : MethodName := ⟨RL, "law", "([I)Z"⟩
def wsX0_init : List Cond := .code yX0_init cX0_init 1 none :: ([.methodLink RX0 3 objectInit, .instanceMethod objectInit, .code objectInit ⟨#[0xb1]⟩ 1 none, .arrayClass .int, .fieldLink RX0 9 "UnionList$Accounts" "debts" "[I", .fieldLink RX0 15 "UnionList$Accounts" "homeCopies" "[I", .fieldLink RX0 18 "UnionList$Accounts" "freeLoans" "[I"] ++ wsX00)
def wsX5_isHouse : List Cond := .code yX5_isHouse cX5_isHouse 1 (some .boolean) :: ([])
def wsX0_countHomeCopy : List Cond := .code yX0_countHomeCopy cX0_countHomeCopy 2 none :: ([.fieldLink RX0 15 "UnionList$Accounts" "homeCopies" "[I", .static yX5_isHouse, .initialized RX5, .code yX5_isHouse cX5_isHouse 1 (some .boolean)] ++ wsX00)
def wsX0_beginQuarter : List Cond := .code yX0_beginQuarter cX0_beginQuarter 2 none :: ([.fieldLink RX0 18 "UnionList$Accounts" "freeLoans" "[I"] ++ wsX00)
def wsX0_freeLoansOf : List Cond := .code yX0_freeLoansOf cX0_freeLoansOf 2 (some .int) :: ([.fieldLink RX0 18 "UnionList$Accounts" "freeLoans" "[I", .static yX5_isHouse, .initialized RX5, .code yX5_isHouse cX5_isHouse 1 (some .boolean)] ++ wsX00)
def wsX0_charge : List Cond := .code yX0_charge cX0_charge 4 none :: ([.fieldLink RX0 9 "UnionList$Accounts" "debts" "[I", .static yX5_isHouse, .initialized RX5, .code yX5_isHouse cX5_isHouse 1 (some .boolean)] ++ wsX00)
def wsX0_chargeLoan : List Cond := .code yX0_chargeLoan cX0_chargeLoan 3 none :: ([.fieldLink RX0 15 "UnionList$Accounts" "homeCopies" "[I", .fieldLink RX0 18 "UnionList$Accounts" "freeLoans" "[I", .static yX5_isHouse, .initialized RX5, .code yX5_isHouse cX5_isHouse 1 (some .boolean), .methodLink RX0 25 yX0_charge, .instanceMethod yX0_charge, .selects RX0 yX0_charge yX0_charge, .initialized RX0, .code yX0_charge cX0_charge 4 none, .fieldLink RX0 9 "UnionList$Accounts" "debts" "[I"] ++ wsX00)
def wsX0_balance : List Cond := .code yX0_balance cX0_balance 3 (some .int) :: ([.fieldLink RX0 9 "UnionList$Accounts" "debts" "[I", .static yX5_isHouse, .initialized RX5, .code yX5_isHouse cX5_isHouse 1 (some .boolean)] ++ wsX00)
def wsX0_clearDebts : List Cond := .code yX0_clearDebts cX0_clearDebts 4 (some .int) :: ([.fieldLink RX0 9 "UnionList$Accounts" "debts" "[I", .methodLink RX0 29 yX0_balance, .instanceMethod yX0_balance, .selects RX0 yX0_balance yX0_balance, .initialized RX0, .code yX0_balance cX0_balance 3 (some .int), .static yX5_isHouse, .initialized RX5, .code yX5_isHouse cX5_isHouse 1 (some .boolean)] ++ wsX00)
def wsX1_init : List Cond := .code yX1_init cX1_init 4 none :: ([.methodLink RX1 3 objectInit, .instanceMethod objectInit, .code objectInit ⟨#[0xb1]⟩ 1 none, .fieldLink RX1 9 "UnionList$Copy" "number" "I", .fieldLink RX1 15 "UnionList$Copy" "home" "I", .fieldLink RX1 18 "UnionList$Copy" "title" "I", .fieldLink RX1 21 "UnionList$Copy" "holder" "I", .fieldLink RX1 24 "UnionList$Copy" "onItsWay" "Z", .fieldLink RX1 28 "UnionList$Copy" "knownToList" "I", .fieldLink RX1 31 "UnionList$Copy" "harmedBy" "I", .fieldLink RX1 34 "UnionList$Copy" "harmKnown" "Z"] ++ wsX10)
def wsX1_isAtHome : List Cond := .code yX1_isAtHome cX1_isAtHome 1 (some .boolean) :: ([.fieldLink RX1 21 "UnionList$Copy" "holder" "I", .fieldLink RX1 15 "UnionList$Copy" "home" "I", .fieldLink RX1 24 "UnionList$Copy" "onItsWay" "Z"] ++ wsX10)
def wsX1_isHarmed : List Cond := .code yX1_isHarmed cX1_isHarmed 1 (some .boolean) :: ([.fieldLink RX1 31 "UnionList$Copy" "harmedBy" "I"] ++ wsX10)
def wsX1_canBeSent : List Cond := .code yX1_canBeSent cX1_canBeSent 1 (some .boolean) :: ([.fieldLink RX1 34 "UnionList$Copy" "harmKnown" "Z", .methodLink RX1 37 yX1_isAtHome, .instanceMethod yX1_isAtHome, .selects RX1 yX1_isAtHome yX1_isAtHome, .initialized RX1, .code yX1_isAtHome cX1_isAtHome 1 (some .boolean), .fieldLink RX1 21 "UnionList$Copy" "holder" "I", .fieldLink RX1 15 "UnionList$Copy" "home" "I", .fieldLink RX1 24 "UnionList$Copy" "onItsWay" "Z"] ++ wsX10)
def wsX2_init : List Cond := .code yX2_init cX2_init 2 none :: ([.methodLink RX2 1 objectInit, .instanceMethod objectInit, .code objectInit ⟨#[0xb1]⟩ 1 none, .methodLink RX2 7 Lib.Math.max.name, .static Lib.Math.max.name, .initialized "java/lang/Math", .code Lib.Math.max.name Lib.Math.max.code 2 (some .int), .classLink RX2 13 RX4, .fieldLink RX2 15 "UnionList$Post" "waiting" "[LUnionList$Sent;", .fieldLink RX2 21 "UnionList$Post" "size" "I"] ++ wsX20)
def wsX2_put : List Cond := .code yX2_put cX2_put 4 none :: ([.fieldLink RX2 21 "UnionList$Post" "size" "I", .fieldLink RX2 15 "UnionList$Post" "waiting" "[LUnionList$Sent;", .fieldLink RX2 25 "UnionList$Sent" "arrival" "I"] ++ wsX20 ++ wsX40)
def wsX2_takeArrived : List Cond := .code yX2_takeArrived cX2_takeArrived 4 (some (.object "UnionList$Sent")) :: ([.fieldLink RX2 21 "UnionList$Post" "size" "I", .fieldLink RX2 15 "UnionList$Post" "waiting" "[LUnionList$Sent;", .fieldLink RX2 25 "UnionList$Sent" "arrival" "I"] ++ wsX20 ++ wsX40)
def wsX3_init : List Cond := .code yX3_init cX3_init 3 none :: ([.methodLink RX3 3 objectInit, .instanceMethod objectInit, .code objectInit ⟨#[0xb1]⟩ 1 none, .fieldLink RX3 9 "UnionList$Request" "house" "I", .fieldLink RX3 15 "UnionList$Request" "title" "I", .fieldLink RX3 18 "UnionList$Request" "copy" "LUnionList$Copy;", .fieldLink RX3 22 "UnionList$Request" "state" "I", .fieldLink RX3 25 "UnionList$Request" "dueDay" "I", .fieldLink RX3 28 "UnionList$Request" "recallSent" "Z", .fieldLink RX3 32 "UnionList$Request" "askedHomes" "I"] ++ wsX30)
def wsX3_markAsked : List Cond := .code yX3_markAsked cX3_markAsked 2 none :: ([.fieldLink RX3 32 "UnionList$Request" "askedHomes" "I"] ++ wsX30)
def wsX3_mayAskFor : List Cond := .code yX3_mayAskFor cX3_mayAskFor 3 (some .boolean) :: ([.fieldLink RX3 32 "UnionList$Request" "askedHomes" "I", .fieldLink RX3 35 "UnionList$Copy" "home" "I", .fieldLink RX3 40 "UnionList$Copy" "title" "I", .fieldLink RX3 15 "UnionList$Request" "title" "I", .fieldLink RX3 41 "UnionList$Copy" "knownToList" "I", .fieldLink RX3 9 "UnionList$Request" "house" "I"] ++ wsX30 ++ wsX10)
def wsX4_init : List Cond := .code yX4_init cX4_init 5 none :: ([.methodLink RX4 1 objectInit, .instanceMethod objectInit, .code objectInit ⟨#[0xb1]⟩ 1 none, .fieldLink RX4 7 "UnionList$Sent" "kind" "I", .fieldLink RX4 13 "UnionList$Sent" "arrival" "I", .fieldLink RX4 16 "UnionList$Sent" "copy" "LUnionList$Copy;", .fieldLink RX4 20 "UnionList$Sent" "request" "LUnionList$Request;"] ++ wsX40)
def wsX5_init_r1 : List Cond := [Cond.methodLink RX5 1 objectInit, Cond.instanceMethod objectInit, Cond.code objectInit ⟨#[0xb1]⟩ 1 none, Cond.classLink RX5 9 RX1, Cond.fieldLink RX5 11 "UnionList" "copies" "[LUnionList$Copy;", Cond.classLink RX5 15 RX3, Cond.fieldLink RX5 17 "UnionList" "requests" "[LUnionList$Request;", Cond.classLink RX5 21 RX2, Cond.instantiable RX2 2, Cond.initialized RX2, Cond.fieldLink RX5 26 "UnionList" "post" "LUnionList$Post;", Cond.classLink RX5 30 RX0, Cond.instantiable RX0 3, Cond.initialized RX0, Cond.fieldLink RX5 33 "UnionList" "accounts" "LUnionList$Accounts;", Cond.fieldLink RX5 37 "UnionList" "copyCount" "I", Cond.fieldLink RX5 41 "UnionList" "requestCount" "I", Cond.fieldLink RX5 44 "UnionList" "day" "I", Cond.methodLink RX5 23 yX2_init, Cond.instanceMethod yX2_init, Cond.code yX2_init cX2_init 2 none, Cond.methodLink RX2 1 objectInit, Cond.methodLink RX2 7 Lib.Math.max.name, Cond.static Lib.Math.max.name]
def wsX5_init_r2 : List Cond := [Cond.initialized "java/lang/Math", Cond.code Lib.Math.max.name Lib.Math.max.code 2 (some .int), Cond.classLink RX2 13 RX4, Cond.fieldLink RX2 15 "UnionList$Post" "waiting" "[LUnionList$Sent;", Cond.fieldLink RX2 21 "UnionList$Post" "size" "I", Cond.methodLink RX5 32 yX0_init, Cond.instanceMethod yX0_init, Cond.code yX0_init cX0_init 1 none, Cond.methodLink RX0 3 objectInit, Cond.arrayClass .int, Cond.fieldLink RX0 9 "UnionList$Accounts" "debts" "[I", Cond.fieldLink RX0 15 "UnionList$Accounts" "homeCopies" "[I", Cond.fieldLink RX0 18 "UnionList$Accounts" "freeLoans" "[I"]
def wsX5_init : List Cond := .code yX5_init cX5_init 1 none :: ((wsX5_init_r1 ++ wsX5_init_r2) ++ wsX50 ++ wsX20 ++ wsX00)
def wsX5_isTitle : List Cond := .code yX5_isTitle cX5_isTitle 1 (some .boolean) :: ([])
def wsX5_wayToList : List Cond := .code yX5_wayToList cX5_wayToList 1 (some .int) :: ([])
def wsX5_send : List Cond := .code yX5_send cX5_send 6 (some .int) :: ([.fieldLink RX5 44 "UnionList" "day" "I", .fieldLink RX5 26 "UnionList" "post" "LUnionList$Post;", .classLink RX5 203 RX4, .instantiable RX4 4, .initialized RX4, .methodLink RX5 205 yX4_init, .instanceMethod yX4_init, .code yX4_init cX4_init 5 none, .methodLink RX4 1 objectInit, .instanceMethod objectInit, .code objectInit ⟨#[0xb1]⟩ 1 none, .fieldLink RX4 7 "UnionList$Sent" "kind" "I", .fieldLink RX4 13 "UnionList$Sent" "arrival" "I", .fieldLink RX4 16 "UnionList$Sent" "copy" "LUnionList$Copy;", .fieldLink RX4 20 "UnionList$Sent" "request" "LUnionList$Request;", .methodLink RX5 208 yX2_put, .instanceMethod yX2_put, .selects RX2 yX2_put yX2_put, .initialized RX2, .code yX2_put cX2_put 4 none, .fieldLink RX2 21 "UnionList$Post" "size" "I", .fieldLink RX2 15 "UnionList$Post" "waiting" "[LUnionList$Sent;", .fieldLink RX2 25 "UnionList$Sent" "arrival" "I"] ++ wsX50 ++ wsX40 ++ wsX20)
def wsX5_sendNews_r1 : List Cond := [Cond.fieldLink RX5 149 "UnionList$Copy" "home" "I", Cond.methodLink RX5 212 yX5_wayToList, Cond.static yX5_wayToList, Cond.initialized RX5, Cond.code yX5_wayToList cX5_wayToList 1 (some .int), Cond.methodLink RX5 156 yX5_send, Cond.instanceMethod yX5_send, Cond.selects RX5 yX5_send yX5_send, Cond.code yX5_send cX5_send 6 (some .int), Cond.fieldLink RX5 44 "UnionList" "day" "I", Cond.fieldLink RX5 26 "UnionList" "post" "LUnionList$Post;", Cond.classLink RX5 203 RX4, Cond.instantiable RX4 4, Cond.initialized RX4, Cond.methodLink RX5 205 yX4_init, Cond.instanceMethod yX4_init, Cond.code yX4_init cX4_init 5 none, Cond.methodLink RX4 1 objectInit, Cond.instanceMethod objectInit, Cond.code objectInit ⟨#[0xb1]⟩ 1 none, Cond.fieldLink RX4 7 "UnionList$Sent" "kind" "I", Cond.fieldLink RX4 13 "UnionList$Sent" "arrival" "I", Cond.fieldLink RX4 16 "UnionList$Sent" "copy" "LUnionList$Copy;", Cond.fieldLink RX4 20 "UnionList$Sent" "request" "LUnionList$Request;"]
def wsX5_sendNews_r2 : List Cond := [Cond.methodLink RX5 208 yX2_put, Cond.instanceMethod yX2_put, Cond.selects RX2 yX2_put yX2_put, Cond.initialized RX2, Cond.code yX2_put cX2_put 4 none, Cond.fieldLink RX2 21 "UnionList$Post" "size" "I", Cond.fieldLink RX2 15 "UnionList$Post" "waiting" "[LUnionList$Sent;", Cond.fieldLink RX2 25 "UnionList$Sent" "arrival" "I"]
def wsX5_sendNews : List Cond := .code yX5_sendNews cX5_sendNews 3 none :: ((wsX5_sendNews_r1 ++ wsX5_sendNews_r2) ++ wsX10 ++ wsX50 ++ wsX40 ++ wsX20)
def wsX5_addCopy_r1 : List Cond := [Cond.classLink RX5 54 "java/lang/IllegalArgumentException", Cond.initialized "java/lang/IllegalArgumentException", Cond.classLink RX5 61 "java/lang/IllegalStateException", Cond.initialized "java/lang/IllegalStateException", Cond.fieldLink RX5 37 "UnionList" "copyCount" "I", Cond.fieldLink RX5 11 "UnionList" "copies" "[LUnionList$Copy;", Cond.classLink RX5 9 RX1, Cond.instantiable RX1 8, Cond.initialized RX1, Cond.fieldLink RX5 33 "UnionList" "accounts" "LUnionList$Accounts;", Cond.methodLink RX5 47 yX5_isHouse, Cond.static yX5_isHouse, Cond.initialized RX5, Cond.code yX5_isHouse cX5_isHouse 1 (some .boolean), Cond.methodLink RX5 51 yX5_isTitle, Cond.static yX5_isTitle, Cond.code yX5_isTitle cX5_isTitle 1 (some .boolean), Cond.methodLink RX5 66 yX1_init, Cond.instanceMethod yX1_init, Cond.code yX1_init cX1_init 4 none, Cond.methodLink RX1 3 objectInit, Cond.instanceMethod objectInit, Cond.code objectInit ⟨#[0xb1]⟩ 1 none, Cond.fieldLink RX1 9 "UnionList$Copy" "number" "I"]
def wsX5_addCopy_r2 : List Cond := [Cond.fieldLink RX1 15 "UnionList$Copy" "home" "I", Cond.fieldLink RX1 18 "UnionList$Copy" "title" "I", Cond.fieldLink RX1 21 "UnionList$Copy" "holder" "I", Cond.fieldLink RX1 24 "UnionList$Copy" "onItsWay" "Z", Cond.fieldLink RX1 28 "UnionList$Copy" "knownToList" "I", Cond.fieldLink RX1 31 "UnionList$Copy" "harmedBy" "I", Cond.fieldLink RX1 34 "UnionList$Copy" "harmKnown" "Z", Cond.methodLink RX5 69 yX0_countHomeCopy, Cond.instanceMethod yX0_countHomeCopy, Cond.selects RX0 yX0_countHomeCopy yX0_countHomeCopy, Cond.initialized RX0, Cond.code yX0_countHomeCopy cX0_countHomeCopy 2 none, Cond.fieldLink RX0 15 "UnionList$Accounts" "homeCopies" "[I", Cond.methodLink RX5 72 yX5_sendNews, Cond.instanceMethod yX5_sendNews, Cond.selects RX5 yX5_sendNews yX5_sendNews, Cond.code yX5_sendNews cX5_sendNews 3 none, Cond.fieldLink RX5 149 "UnionList$Copy" "home" "I", Cond.methodLink RX5 212 yX5_wayToList, Cond.static yX5_wayToList, Cond.code yX5_wayToList cX5_wayToList 1 (some .int), Cond.methodLink RX5 156 yX5_send, Cond.instanceMethod yX5_send, Cond.selects RX5 yX5_send yX5_send]
def wsX5_addCopy_r3 : List Cond := [Cond.code yX5_send cX5_send 6 (some .int), Cond.fieldLink RX5 44 "UnionList" "day" "I", Cond.fieldLink RX5 26 "UnionList" "post" "LUnionList$Post;", Cond.classLink RX5 203 RX4, Cond.instantiable RX4 4, Cond.initialized RX4, Cond.methodLink RX5 205 yX4_init, Cond.instanceMethod yX4_init, Cond.code yX4_init cX4_init 5 none, Cond.methodLink RX4 1 objectInit, Cond.fieldLink RX4 7 "UnionList$Sent" "kind" "I", Cond.fieldLink RX4 13 "UnionList$Sent" "arrival" "I", Cond.fieldLink RX4 16 "UnionList$Sent" "copy" "LUnionList$Copy;", Cond.fieldLink RX4 20 "UnionList$Sent" "request" "LUnionList$Request;", Cond.methodLink RX5 208 yX2_put, Cond.instanceMethod yX2_put, Cond.selects RX2 yX2_put yX2_put, Cond.initialized RX2, Cond.code yX2_put cX2_put 4 none, Cond.fieldLink RX2 21 "UnionList$Post" "size" "I", Cond.fieldLink RX2 15 "UnionList$Post" "waiting" "[LUnionList$Sent;", Cond.fieldLink RX2 25 "UnionList$Sent" "arrival" "I"]
def wsX5_addCopy : List Cond := .code yX5_addCopy cX5_addCopy 5 (some .int) :: ((wsX5_addCopy_r1 ++ (wsX5_addCopy_r2 ++ wsX5_addCopy_r3)) ++ wsX50 ++ wsX10 ++ wsX00 ++ wsX40 ++ wsX20 ++ (vx_atS RX5 58 "java/lang/IllegalArgumentException" ["java/lang/RuntimeException", "java/lang/Exception"]).filter goodWord ++ (vx_atS RX5 65 "java/lang/IllegalStateException" ["java/lang/RuntimeException", "java/lang/Exception"]).filter goodWord)
def wsX5_copyNumbered : List Cond := .code yX5_copyNumbered cX5_copyNumbered 3 (some (.object "UnionList$Copy")) :: ([.classLink RX5 193 "java/lang/IndexOutOfBoundsException", .initialized "java/lang/IndexOutOfBoundsException", .fieldLink RX5 11 "UnionList" "copies" "[LUnionList$Copy;"] ++ wsX50 ++ (vx_atS RX5 197 "java/lang/IndexOutOfBoundsException" ["java/lang/RuntimeException", "java/lang/Exception"]).filter goodWord)
def wsX5_inHandsOf : List Cond := .code yX5_inHandsOf cX5_inHandsOf 2 (some .int) :: ([.fieldLink RX5 80 "UnionList$Copy" "holder" "I", .methodLink RX5 76 yX5_copyNumbered, .instanceMethod yX5_copyNumbered, .selects RX5 yX5_copyNumbered yX5_copyNumbered, .initialized RX5, .code yX5_copyNumbered cX5_copyNumbered 3 (some (.object "UnionList$Copy")), .classLink RX5 193 "java/lang/IndexOutOfBoundsException", .initialized "java/lang/IndexOutOfBoundsException", .fieldLink RX5 11 "UnionList" "copies" "[LUnionList$Copy;"] ++ wsX10 ++ wsX50 ++ (vx_atS RX5 197 "java/lang/IndexOutOfBoundsException" ["java/lang/RuntimeException", "java/lang/Exception"]).filter goodWord)
def wsX5_isFree : List Cond := .code yX5_isFree cX5_isFree 2 (some .boolean) :: ([.methodLink RX5 76 yX5_copyNumbered, .instanceMethod yX5_copyNumbered, .selects RX5 yX5_copyNumbered yX5_copyNumbered, .initialized RX5, .code yX5_copyNumbered cX5_copyNumbered 3 (some (.object "UnionList$Copy")), .classLink RX5 193 "java/lang/IndexOutOfBoundsException", .initialized "java/lang/IndexOutOfBoundsException", .fieldLink RX5 11 "UnionList" "copies" "[LUnionList$Copy;", .methodLink RX5 83 yX1_canBeSent, .instanceMethod yX1_canBeSent, .selects RX1 yX1_canBeSent yX1_canBeSent, .initialized RX1, .code yX1_canBeSent cX1_canBeSent 1 (some .boolean), .fieldLink RX1 34 "UnionList$Copy" "harmKnown" "Z", .methodLink RX1 37 yX1_isAtHome, .instanceMethod yX1_isAtHome, .selects RX1 yX1_isAtHome yX1_isAtHome, .code yX1_isAtHome cX1_isAtHome 1 (some .boolean), .fieldLink RX1 21 "UnionList$Copy" "holder" "I", .fieldLink RX1 15 "UnionList$Copy" "home" "I", .fieldLink RX1 24 "UnionList$Copy" "onItsWay" "Z"] ++ wsX50 ++ wsX10 ++ (vx_atS RX5 197 "java/lang/IndexOutOfBoundsException" ["java/lang/RuntimeException", "java/lang/Exception"]).filter goodWord)
def wsX5_listed : List Cond := .code yX5_listed cX5_listed 2 (some .int) :: ([.fieldLink RX5 87 "UnionList$Copy" "knownToList" "I", .methodLink RX5 76 yX5_copyNumbered, .instanceMethod yX5_copyNumbered, .selects RX5 yX5_copyNumbered yX5_copyNumbered, .initialized RX5, .code yX5_copyNumbered cX5_copyNumbered 3 (some (.object "UnionList$Copy")), .classLink RX5 193 "java/lang/IndexOutOfBoundsException", .initialized "java/lang/IndexOutOfBoundsException", .fieldLink RX5 11 "UnionList" "copies" "[LUnionList$Copy;"] ++ wsX10 ++ wsX50 ++ (vx_atS RX5 197 "java/lang/IndexOutOfBoundsException" ["java/lang/RuntimeException", "java/lang/Exception"]).filter goodWord)
def wsX5_harm : List Cond := .code yX5_harm cX5_harm 3 (some .int) :: ([.classLink RX5 61 "java/lang/IllegalStateException", .initialized "java/lang/IllegalStateException", .fieldLink RX5 80 "UnionList$Copy" "holder" "I", .fieldLink RX5 95 "UnionList$Copy" "harmedBy" "I", .methodLink RX5 76 yX5_copyNumbered, .instanceMethod yX5_copyNumbered, .selects RX5 yX5_copyNumbered yX5_copyNumbered, .initialized RX5, .code yX5_copyNumbered cX5_copyNumbered 3 (some (.object "UnionList$Copy")), .classLink RX5 193 "java/lang/IndexOutOfBoundsException", .initialized "java/lang/IndexOutOfBoundsException", .fieldLink RX5 11 "UnionList" "copies" "[LUnionList$Copy;", .methodLink RX5 90 yX1_isHarmed, .instanceMethod yX1_isHarmed, .selects RX1 yX1_isHarmed yX1_isHarmed, .initialized RX1, .code yX1_isHarmed cX1_isHarmed 1 (some .boolean), .fieldLink RX1 31 "UnionList$Copy" "harmedBy" "I"] ++ wsX10 ++ wsX50 ++ (vx_atS RX5 65 "java/lang/IllegalStateException" ["java/lang/RuntimeException", "java/lang/Exception"]).filter goodWord ++ (vx_atS RX5 197 "java/lang/IndexOutOfBoundsException" ["java/lang/RuntimeException", "java/lang/Exception"]).filter goodWord)
def wsX5_examine : List Cond := .code yX5_examine cX5_examine 2 (some .int) :: ([.fieldLink RX5 111 "UnionList$Copy" "harmKnown" "Z", .fieldLink RX5 95 "UnionList$Copy" "harmedBy" "I", .fieldLink RX5 149 "UnionList$Copy" "home" "I", .fieldLink RX5 33 "UnionList" "accounts" "LUnionList$Accounts;", .methodLink RX5 90 yX1_isHarmed, .instanceMethod yX1_isHarmed, .selects RX1 yX1_isHarmed yX1_isHarmed, .initialized RX1, .code yX1_isHarmed cX1_isHarmed 1 (some .boolean), .fieldLink RX1 31 "UnionList$Copy" "harmedBy" "I", .methodLink RX5 170 yX0_charge, .instanceMethod yX0_charge, .selects RX0 yX0_charge yX0_charge, .initialized RX0, .code yX0_charge cX0_charge 4 none, .fieldLink RX0 9 "UnionList$Accounts" "debts" "[I", .static yX5_isHouse, .initialized RX5, .code yX5_isHouse cX5_isHouse 1 (some .boolean)] ++ wsX10 ++ wsX50 ++ wsX00)
def wsX5_look_r1 : List Cond := [Cond.classLink RX5 61 "java/lang/IllegalStateException", Cond.initialized "java/lang/IllegalStateException", Cond.fieldLink RX5 98 "UnionList$Copy" "onItsWay" "Z", Cond.methodLink RX5 76 yX5_copyNumbered, Cond.instanceMethod yX5_copyNumbered, Cond.selects RX5 yX5_copyNumbered yX5_copyNumbered, Cond.initialized RX5, Cond.code yX5_copyNumbered cX5_copyNumbered 3 (some (.object "UnionList$Copy")), Cond.classLink RX5 193 "java/lang/IndexOutOfBoundsException", Cond.initialized "java/lang/IndexOutOfBoundsException", Cond.fieldLink RX5 11 "UnionList" "copies" "[LUnionList$Copy;", Cond.methodLink RX5 104 yX5_examine, Cond.instanceMethod yX5_examine, Cond.selects RX5 yX5_examine yX5_examine, Cond.code yX5_examine cX5_examine 2 (some .int), Cond.fieldLink RX5 111 "UnionList$Copy" "harmKnown" "Z", Cond.fieldLink RX5 95 "UnionList$Copy" "harmedBy" "I", Cond.fieldLink RX5 149 "UnionList$Copy" "home" "I", Cond.fieldLink RX5 33 "UnionList" "accounts" "LUnionList$Accounts;", Cond.methodLink RX5 90 yX1_isHarmed, Cond.instanceMethod yX1_isHarmed, Cond.selects RX1 yX1_isHarmed yX1_isHarmed, Cond.initialized RX1, Cond.code yX1_isHarmed cX1_isHarmed 1 (some .boolean)]
def wsX5_look_r2 : List Cond := [Cond.fieldLink RX1 31 "UnionList$Copy" "harmedBy" "I", Cond.methodLink RX5 170 yX0_charge, Cond.instanceMethod yX0_charge, Cond.selects RX0 yX0_charge yX0_charge, Cond.initialized RX0, Cond.code yX0_charge cX0_charge 4 none, Cond.fieldLink RX0 9 "UnionList$Accounts" "debts" "[I", Cond.static yX5_isHouse, Cond.code yX5_isHouse cX5_isHouse 1 (some .boolean)]
def wsX5_look : List Cond := .code yX5_look cX5_look 3 (some .int) :: ((wsX5_look_r1 ++ wsX5_look_r2) ++ wsX10 ++ wsX50 ++ wsX00 ++ (vx_atS RX5 65 "java/lang/IllegalStateException" ["java/lang/RuntimeException", "java/lang/Exception"]).filter goodWord ++ (vx_atS RX5 197 "java/lang/IndexOutOfBoundsException" ["java/lang/RuntimeException", "java/lang/Exception"]).filter goodWord)
def wsX5_mend_r1 : List Cond := [Cond.classLink RX5 61 "java/lang/IllegalStateException", Cond.initialized "java/lang/IllegalStateException", Cond.fieldLink RX5 111 "UnionList$Copy" "harmKnown" "Z", Cond.fieldLink RX5 95 "UnionList$Copy" "harmedBy" "I", Cond.methodLink RX5 76 yX5_copyNumbered, Cond.instanceMethod yX5_copyNumbered, Cond.selects RX5 yX5_copyNumbered yX5_copyNumbered, Cond.initialized RX5, Cond.code yX5_copyNumbered cX5_copyNumbered 3 (some (.object "UnionList$Copy")), Cond.classLink RX5 193 "java/lang/IndexOutOfBoundsException", Cond.initialized "java/lang/IndexOutOfBoundsException", Cond.fieldLink RX5 11 "UnionList" "copies" "[LUnionList$Copy;", Cond.methodLink RX5 108 yX1_isAtHome, Cond.instanceMethod yX1_isAtHome, Cond.selects RX1 yX1_isAtHome yX1_isAtHome, Cond.initialized RX1, Cond.code yX1_isAtHome cX1_isAtHome 1 (some .boolean), Cond.fieldLink RX1 21 "UnionList$Copy" "holder" "I", Cond.fieldLink RX1 15 "UnionList$Copy" "home" "I", Cond.fieldLink RX1 24 "UnionList$Copy" "onItsWay" "Z", Cond.methodLink RX5 72 yX5_sendNews, Cond.instanceMethod yX5_sendNews, Cond.selects RX5 yX5_sendNews yX5_sendNews, Cond.code yX5_sendNews cX5_sendNews 3 none]
def wsX5_mend_r2 : List Cond := [Cond.fieldLink RX5 149 "UnionList$Copy" "home" "I", Cond.methodLink RX5 212 yX5_wayToList, Cond.static yX5_wayToList, Cond.code yX5_wayToList cX5_wayToList 1 (some .int), Cond.methodLink RX5 156 yX5_send, Cond.instanceMethod yX5_send, Cond.selects RX5 yX5_send yX5_send, Cond.code yX5_send cX5_send 6 (some .int), Cond.fieldLink RX5 44 "UnionList" "day" "I", Cond.fieldLink RX5 26 "UnionList" "post" "LUnionList$Post;", Cond.classLink RX5 203 RX4, Cond.instantiable RX4 4, Cond.initialized RX4, Cond.methodLink RX5 205 yX4_init, Cond.instanceMethod yX4_init, Cond.code yX4_init cX4_init 5 none, Cond.methodLink RX4 1 objectInit, Cond.instanceMethod objectInit, Cond.code objectInit ⟨#[0xb1]⟩ 1 none, Cond.fieldLink RX4 7 "UnionList$Sent" "kind" "I", Cond.fieldLink RX4 13 "UnionList$Sent" "arrival" "I", Cond.fieldLink RX4 16 "UnionList$Sent" "copy" "LUnionList$Copy;", Cond.fieldLink RX4 20 "UnionList$Sent" "request" "LUnionList$Request;", Cond.methodLink RX5 208 yX2_put]
def wsX5_mend_r3 : List Cond := [Cond.instanceMethod yX2_put, Cond.selects RX2 yX2_put yX2_put, Cond.initialized RX2, Cond.code yX2_put cX2_put 4 none, Cond.fieldLink RX2 21 "UnionList$Post" "size" "I", Cond.fieldLink RX2 15 "UnionList$Post" "waiting" "[LUnionList$Sent;", Cond.fieldLink RX2 25 "UnionList$Sent" "arrival" "I"]
def wsX5_mend : List Cond := .code yX5_mend cX5_mend 3 none :: ((wsX5_mend_r1 ++ (wsX5_mend_r2 ++ wsX5_mend_r3)) ++ wsX10 ++ wsX50 ++ wsX40 ++ wsX20 ++ (vx_atS RX5 65 "java/lang/IllegalStateException" ["java/lang/RuntimeException", "java/lang/Exception"]).filter goodWord ++ (vx_atS RX5 197 "java/lang/IndexOutOfBoundsException" ["java/lang/RuntimeException", "java/lang/Exception"]).filter goodWord)
def wsX5_way : List Cond := .code yX5_way cX5_way 2 (some .int) :: ([.methodLink RX5 200 Lib.Math.abs.name, .static Lib.Math.abs.name, .initialized "java/lang/Math", .code Lib.Math.abs.name Lib.Math.abs.code 1 (some .int)])
def wsX5_nearestListedFree : List Cond := .code yX5_nearestListedFree cX5_nearestListedFree 9 (some (.object "UnionList$Copy")) :: ([.fieldLink RX5 11 "UnionList" "copies" "[LUnionList$Copy;", .fieldLink RX5 146 "UnionList$Request" "house" "I", .fieldLink RX5 149 "UnionList$Copy" "home" "I", .methodLink RX5 259 yX3_mayAskFor, .instanceMethod yX3_mayAskFor, .selects RX3 yX3_mayAskFor yX3_mayAskFor, .initialized RX3, .code yX3_mayAskFor cX3_mayAskFor 3 (some .boolean), .fieldLink RX3 32 "UnionList$Request" "askedHomes" "I", .fieldLink RX3 35 "UnionList$Copy" "home" "I", .fieldLink RX3 40 "UnionList$Copy" "title" "I", .fieldLink RX3 15 "UnionList$Request" "title" "I", .fieldLink RX3 41 "UnionList$Copy" "knownToList" "I", .fieldLink RX3 9 "UnionList$Request" "house" "I", .methodLink RX5 152 yX5_way, .static yX5_way, .initialized RX5, .code yX5_way cX5_way 2 (some .int), .methodLink RX5 200 Lib.Math.abs.name, .static Lib.Math.abs.name, .initialized "java/lang/Math", .code Lib.Math.abs.name Lib.Math.abs.code 1 (some .int)] ++ wsX50 ++ wsX30 ++ wsX10)
def wsX5_askNextHome_r1 : List Cond := [Cond.fieldLink RX5 134 "UnionList$Request" "copy" "LUnionList$Copy;", Cond.fieldLink RX5 131 "UnionList$Request" "state" "I", Cond.fieldLink RX5 149 "UnionList$Copy" "home" "I", Cond.fieldLink RX5 146 "UnionList$Request" "house" "I", Cond.methodLink RX5 252 yX5_nearestListedFree, Cond.instanceMethod yX5_nearestListedFree, Cond.selects RX5 yX5_nearestListedFree yX5_nearestListedFree, Cond.initialized RX5, Cond.code yX5_nearestListedFree cX5_nearestListedFree 9 (some (.object "UnionList$Copy")), Cond.fieldLink RX5 11 "UnionList" "copies" "[LUnionList$Copy;", Cond.methodLink RX5 259 yX3_mayAskFor, Cond.instanceMethod yX3_mayAskFor, Cond.selects RX3 yX3_mayAskFor yX3_mayAskFor, Cond.initialized RX3, Cond.code yX3_mayAskFor cX3_mayAskFor 3 (some .boolean), Cond.fieldLink RX3 32 "UnionList$Request" "askedHomes" "I", Cond.fieldLink RX3 35 "UnionList$Copy" "home" "I", Cond.fieldLink RX3 40 "UnionList$Copy" "title" "I", Cond.fieldLink RX3 15 "UnionList$Request" "title" "I", Cond.fieldLink RX3 41 "UnionList$Copy" "knownToList" "I", Cond.fieldLink RX3 9 "UnionList$Request" "house" "I", Cond.methodLink RX5 152 yX5_way, Cond.static yX5_way, Cond.code yX5_way cX5_way 2 (some .int)]
def wsX5_askNextHome_r2 : List Cond := [Cond.methodLink RX5 200 Lib.Math.abs.name, Cond.static Lib.Math.abs.name, Cond.initialized "java/lang/Math", Cond.code Lib.Math.abs.name Lib.Math.abs.code 1 (some .int), Cond.methodLink RX5 256 yX3_markAsked, Cond.instanceMethod yX3_markAsked, Cond.selects RX3 yX3_markAsked yX3_markAsked, Cond.code yX3_markAsked cX3_markAsked 2 none, Cond.methodLink RX5 156 yX5_send, Cond.instanceMethod yX5_send, Cond.selects RX5 yX5_send yX5_send, Cond.code yX5_send cX5_send 6 (some .int), Cond.fieldLink RX5 44 "UnionList" "day" "I", Cond.fieldLink RX5 26 "UnionList" "post" "LUnionList$Post;", Cond.classLink RX5 203 RX4, Cond.instantiable RX4 4, Cond.initialized RX4, Cond.methodLink RX5 205 yX4_init, Cond.instanceMethod yX4_init, Cond.code yX4_init cX4_init 5 none, Cond.methodLink RX4 1 objectInit, Cond.instanceMethod objectInit, Cond.code objectInit ⟨#[0xb1]⟩ 1 none, Cond.fieldLink RX4 7 "UnionList$Sent" "kind" "I"]
def wsX5_askNextHome_r3 : List Cond := [Cond.fieldLink RX4 13 "UnionList$Sent" "arrival" "I", Cond.fieldLink RX4 16 "UnionList$Sent" "copy" "LUnionList$Copy;", Cond.fieldLink RX4 20 "UnionList$Sent" "request" "LUnionList$Request;", Cond.methodLink RX5 208 yX2_put, Cond.instanceMethod yX2_put, Cond.selects RX2 yX2_put yX2_put, Cond.initialized RX2, Cond.code yX2_put cX2_put 4 none, Cond.fieldLink RX2 21 "UnionList$Post" "size" "I", Cond.fieldLink RX2 15 "UnionList$Post" "waiting" "[LUnionList$Sent;", Cond.fieldLink RX2 25 "UnionList$Sent" "arrival" "I"]
def wsX5_askNextHome : List Cond := .code yX5_askNextHome cX5_askNextHome 3 none :: ((wsX5_askNextHome_r1 ++ (wsX5_askNextHome_r2 ++ wsX5_askNextHome_r3)) ++ wsX30 ++ wsX10 ++ wsX50 ++ wsX40 ++ wsX20)
def wsX5_request_r1 : List Cond := [Cond.classLink RX5 54 "java/lang/IllegalArgumentException", Cond.initialized "java/lang/IllegalArgumentException", Cond.classLink RX5 61 "java/lang/IllegalStateException", Cond.initialized "java/lang/IllegalStateException", Cond.fieldLink RX5 41 "UnionList" "requestCount" "I", Cond.fieldLink RX5 17 "UnionList" "requests" "[LUnionList$Request;", Cond.classLink RX5 15 RX3, Cond.instantiable RX3 7, Cond.initialized RX3, Cond.methodLink RX5 47 yX5_isHouse, Cond.static yX5_isHouse, Cond.initialized RX5, Cond.code yX5_isHouse cX5_isHouse 1 (some .boolean), Cond.methodLink RX5 51 yX5_isTitle, Cond.static yX5_isTitle, Cond.code yX5_isTitle cX5_isTitle 1 (some .boolean), Cond.methodLink RX5 120 yX3_init, Cond.instanceMethod yX3_init, Cond.code yX3_init cX3_init 3 none, Cond.methodLink RX3 3 objectInit, Cond.instanceMethod objectInit, Cond.code objectInit ⟨#[0xb1]⟩ 1 none, Cond.fieldLink RX3 9 "UnionList$Request" "house" "I", Cond.fieldLink RX3 15 "UnionList$Request" "title" "I"]
def wsX5_request_r2 : List Cond := [Cond.fieldLink RX3 18 "UnionList$Request" "copy" "LUnionList$Copy;", Cond.fieldLink RX3 22 "UnionList$Request" "state" "I", Cond.fieldLink RX3 25 "UnionList$Request" "dueDay" "I", Cond.fieldLink RX3 28 "UnionList$Request" "recallSent" "Z", Cond.fieldLink RX3 32 "UnionList$Request" "askedHomes" "I", Cond.methodLink RX5 123 yX5_askNextHome, Cond.instanceMethod yX5_askNextHome, Cond.selects RX5 yX5_askNextHome yX5_askNextHome, Cond.code yX5_askNextHome cX5_askNextHome 3 none, Cond.fieldLink RX5 134 "UnionList$Request" "copy" "LUnionList$Copy;", Cond.fieldLink RX5 131 "UnionList$Request" "state" "I", Cond.fieldLink RX5 149 "UnionList$Copy" "home" "I", Cond.fieldLink RX5 146 "UnionList$Request" "house" "I", Cond.methodLink RX5 252 yX5_nearestListedFree, Cond.instanceMethod yX5_nearestListedFree, Cond.selects RX5 yX5_nearestListedFree yX5_nearestListedFree, Cond.code yX5_nearestListedFree cX5_nearestListedFree 9 (some (.object "UnionList$Copy")), Cond.fieldLink RX5 11 "UnionList" "copies" "[LUnionList$Copy;", Cond.methodLink RX5 259 yX3_mayAskFor, Cond.instanceMethod yX3_mayAskFor, Cond.selects RX3 yX3_mayAskFor yX3_mayAskFor, Cond.code yX3_mayAskFor cX3_mayAskFor 3 (some .boolean), Cond.fieldLink RX3 35 "UnionList$Copy" "home" "I", Cond.fieldLink RX3 40 "UnionList$Copy" "title" "I"]
def wsX5_request_r3 : List Cond := [Cond.fieldLink RX3 41 "UnionList$Copy" "knownToList" "I", Cond.methodLink RX5 152 yX5_way, Cond.static yX5_way, Cond.code yX5_way cX5_way 2 (some .int), Cond.methodLink RX5 200 Lib.Math.abs.name, Cond.static Lib.Math.abs.name, Cond.initialized "java/lang/Math", Cond.code Lib.Math.abs.name Lib.Math.abs.code 1 (some .int), Cond.methodLink RX5 256 yX3_markAsked, Cond.instanceMethod yX3_markAsked, Cond.selects RX3 yX3_markAsked yX3_markAsked, Cond.code yX3_markAsked cX3_markAsked 2 none, Cond.methodLink RX5 156 yX5_send, Cond.instanceMethod yX5_send, Cond.selects RX5 yX5_send yX5_send, Cond.code yX5_send cX5_send 6 (some .int), Cond.fieldLink RX5 44 "UnionList" "day" "I", Cond.fieldLink RX5 26 "UnionList" "post" "LUnionList$Post;", Cond.classLink RX5 203 RX4, Cond.instantiable RX4 4, Cond.initialized RX4, Cond.methodLink RX5 205 yX4_init, Cond.instanceMethod yX4_init, Cond.code yX4_init cX4_init 5 none]
def wsX5_request_r4 : List Cond := [Cond.methodLink RX4 1 objectInit, Cond.fieldLink RX4 7 "UnionList$Sent" "kind" "I", Cond.fieldLink RX4 13 "UnionList$Sent" "arrival" "I", Cond.fieldLink RX4 16 "UnionList$Sent" "copy" "LUnionList$Copy;", Cond.fieldLink RX4 20 "UnionList$Sent" "request" "LUnionList$Request;", Cond.methodLink RX5 208 yX2_put, Cond.instanceMethod yX2_put, Cond.selects RX2 yX2_put yX2_put, Cond.initialized RX2, Cond.code yX2_put cX2_put 4 none, Cond.fieldLink RX2 21 "UnionList$Post" "size" "I", Cond.fieldLink RX2 15 "UnionList$Post" "waiting" "[LUnionList$Sent;", Cond.fieldLink RX2 25 "UnionList$Sent" "arrival" "I"]
def wsX5_request : List Cond := .code yX5_request cX5_request 5 (some .int) :: ((wsX5_request_r1 ++ (wsX5_request_r2 ++ (wsX5_request_r3 ++ wsX5_request_r4))) ++ wsX50 ++ wsX30 ++ wsX10 ++ wsX40 ++ wsX20 ++ (vx_atS RX5 58 "java/lang/IllegalArgumentException" ["java/lang/RuntimeException", "java/lang/Exception"]).filter goodWord ++ (vx_atS RX5 65 "java/lang/IllegalStateException" ["java/lang/RuntimeException", "java/lang/Exception"]).filter goodWord)
def wsX5_requestNumbered : List Cond := .code yX5_requestNumbered cX5_requestNumbered 3 (some (.object "UnionList$Request")) :: ([.classLink RX5 193 "java/lang/IndexOutOfBoundsException", .initialized "java/lang/IndexOutOfBoundsException", .fieldLink RX5 17 "UnionList" "requests" "[LUnionList$Request;"] ++ wsX50 ++ (vx_atS RX5 197 "java/lang/IndexOutOfBoundsException" ["java/lang/RuntimeException", "java/lang/Exception"]).filter goodWord)
def wsX5_state : List Cond := .code yX5_state cX5_state 2 (some .int) :: ([.fieldLink RX5 131 "UnionList$Request" "state" "I", .methodLink RX5 127 yX5_requestNumbered, .instanceMethod yX5_requestNumbered, .selects RX5 yX5_requestNumbered yX5_requestNumbered, .initialized RX5, .code yX5_requestNumbered cX5_requestNumbered 3 (some (.object "UnionList$Request")), .classLink RX5 193 "java/lang/IndexOutOfBoundsException", .initialized "java/lang/IndexOutOfBoundsException", .fieldLink RX5 17 "UnionList" "requests" "[LUnionList$Request;"] ++ wsX30 ++ wsX50 ++ (vx_atS RX5 197 "java/lang/IndexOutOfBoundsException" ["java/lang/RuntimeException", "java/lang/Exception"]).filter goodWord)
def wsX5_copyOf : List Cond := .code yX5_copyOf cX5_copyOf 3 (some .int) :: ([.fieldLink RX5 134 "UnionList$Request" "copy" "LUnionList$Copy;", .fieldLink RX5 138 "UnionList$Copy" "number" "I", .methodLink RX5 127 yX5_requestNumbered, .instanceMethod yX5_requestNumbered, .selects RX5 yX5_requestNumbered yX5_requestNumbered, .initialized RX5, .code yX5_requestNumbered cX5_requestNumbered 3 (some (.object "UnionList$Request")), .classLink RX5 193 "java/lang/IndexOutOfBoundsException", .initialized "java/lang/IndexOutOfBoundsException", .fieldLink RX5 17 "UnionList" "requests" "[LUnionList$Request;"] ++ wsX30 ++ wsX10 ++ wsX50 ++ (vx_atS RX5 197 "java/lang/IndexOutOfBoundsException" ["java/lang/RuntimeException", "java/lang/Exception"]).filter goodWord)
def wsX5_due : List Cond := .code yX5_due cX5_due 3 (some .int) :: ([.classLink RX5 61 "java/lang/IllegalStateException", .initialized "java/lang/IllegalStateException", .fieldLink RX5 131 "UnionList$Request" "state" "I", .fieldLink RX5 143 "UnionList$Request" "dueDay" "I", .methodLink RX5 127 yX5_requestNumbered, .instanceMethod yX5_requestNumbered, .selects RX5 yX5_requestNumbered yX5_requestNumbered, .initialized RX5, .code yX5_requestNumbered cX5_requestNumbered 3 (some (.object "UnionList$Request")), .classLink RX5 193 "java/lang/IndexOutOfBoundsException", .initialized "java/lang/IndexOutOfBoundsException", .fieldLink RX5 17 "UnionList" "requests" "[LUnionList$Request;"] ++ wsX30 ++ wsX50 ++ (vx_atS RX5 65 "java/lang/IllegalStateException" ["java/lang/RuntimeException", "java/lang/Exception"]).filter goodWord ++ (vx_atS RX5 197 "java/lang/IndexOutOfBoundsException" ["java/lang/RuntimeException", "java/lang/Exception"]).filter goodWord)
def wsX5_renew_r1 : List Cond := [Cond.classLink RX5 61 "java/lang/IllegalStateException", Cond.initialized "java/lang/IllegalStateException", Cond.fieldLink RX5 134 "UnionList$Request" "copy" "LUnionList$Copy;", Cond.fieldLink RX5 131 "UnionList$Request" "state" "I", Cond.fieldLink RX5 146 "UnionList$Request" "house" "I", Cond.fieldLink RX5 149 "UnionList$Copy" "home" "I", Cond.methodLink RX5 127 yX5_requestNumbered, Cond.instanceMethod yX5_requestNumbered, Cond.selects RX5 yX5_requestNumbered yX5_requestNumbered, Cond.initialized RX5, Cond.code yX5_requestNumbered cX5_requestNumbered 3 (some (.object "UnionList$Request")), Cond.classLink RX5 193 "java/lang/IndexOutOfBoundsException", Cond.initialized "java/lang/IndexOutOfBoundsException", Cond.fieldLink RX5 17 "UnionList" "requests" "[LUnionList$Request;", Cond.methodLink RX5 152 yX5_way, Cond.static yX5_way, Cond.code yX5_way cX5_way 2 (some .int), Cond.methodLink RX5 200 Lib.Math.abs.name, Cond.static Lib.Math.abs.name, Cond.initialized "java/lang/Math", Cond.code Lib.Math.abs.name Lib.Math.abs.code 1 (some .int), Cond.methodLink RX5 156 yX5_send, Cond.instanceMethod yX5_send, Cond.selects RX5 yX5_send yX5_send]
def wsX5_renew_r2 : List Cond := [Cond.code yX5_send cX5_send 6 (some .int), Cond.fieldLink RX5 44 "UnionList" "day" "I", Cond.fieldLink RX5 26 "UnionList" "post" "LUnionList$Post;", Cond.classLink RX5 203 RX4, Cond.instantiable RX4 4, Cond.initialized RX4, Cond.methodLink RX5 205 yX4_init, Cond.instanceMethod yX4_init, Cond.code yX4_init cX4_init 5 none, Cond.methodLink RX4 1 objectInit, Cond.instanceMethod objectInit, Cond.code objectInit ⟨#[0xb1]⟩ 1 none, Cond.fieldLink RX4 7 "UnionList$Sent" "kind" "I", Cond.fieldLink RX4 13 "UnionList$Sent" "arrival" "I", Cond.fieldLink RX4 16 "UnionList$Sent" "copy" "LUnionList$Copy;", Cond.fieldLink RX4 20 "UnionList$Sent" "request" "LUnionList$Request;", Cond.methodLink RX5 208 yX2_put, Cond.instanceMethod yX2_put, Cond.selects RX2 yX2_put yX2_put, Cond.initialized RX2, Cond.code yX2_put cX2_put 4 none, Cond.fieldLink RX2 21 "UnionList$Post" "size" "I", Cond.fieldLink RX2 15 "UnionList$Post" "waiting" "[LUnionList$Sent;", Cond.fieldLink RX2 25 "UnionList$Sent" "arrival" "I"]
def wsX5_renew : List Cond := .code yX5_renew cX5_renew 4 (some .int) :: ((wsX5_renew_r1 ++ wsX5_renew_r2) ++ wsX30 ++ wsX10 ++ wsX50 ++ wsX40 ++ wsX20 ++ (vx_atS RX5 65 "java/lang/IllegalStateException" ["java/lang/RuntimeException", "java/lang/Exception"]).filter goodWord ++ (vx_atS RX5 197 "java/lang/IndexOutOfBoundsException" ["java/lang/RuntimeException", "java/lang/Exception"]).filter goodWord)
def wsX5_recall_r1 : List Cond := [Cond.classLink RX5 61 "java/lang/IllegalStateException", Cond.initialized "java/lang/IllegalStateException", Cond.fieldLink RX5 134 "UnionList$Request" "copy" "LUnionList$Copy;", Cond.fieldLink RX5 131 "UnionList$Request" "state" "I", Cond.fieldLink RX5 160 "UnionList$Request" "recallSent" "Z", Cond.fieldLink RX5 146 "UnionList$Request" "house" "I", Cond.fieldLink RX5 149 "UnionList$Copy" "home" "I", Cond.methodLink RX5 127 yX5_requestNumbered, Cond.instanceMethod yX5_requestNumbered, Cond.selects RX5 yX5_requestNumbered yX5_requestNumbered, Cond.initialized RX5, Cond.code yX5_requestNumbered cX5_requestNumbered 3 (some (.object "UnionList$Request")), Cond.classLink RX5 193 "java/lang/IndexOutOfBoundsException", Cond.initialized "java/lang/IndexOutOfBoundsException", Cond.fieldLink RX5 17 "UnionList" "requests" "[LUnionList$Request;", Cond.methodLink RX5 152 yX5_way, Cond.static yX5_way, Cond.code yX5_way cX5_way 2 (some .int), Cond.methodLink RX5 200 Lib.Math.abs.name, Cond.static Lib.Math.abs.name, Cond.initialized "java/lang/Math", Cond.code Lib.Math.abs.name Lib.Math.abs.code 1 (some .int), Cond.methodLink RX5 156 yX5_send, Cond.instanceMethod yX5_send]
def wsX5_recall_r2 : List Cond := [Cond.selects RX5 yX5_send yX5_send, Cond.code yX5_send cX5_send 6 (some .int), Cond.fieldLink RX5 44 "UnionList" "day" "I", Cond.fieldLink RX5 26 "UnionList" "post" "LUnionList$Post;", Cond.classLink RX5 203 RX4, Cond.instantiable RX4 4, Cond.initialized RX4, Cond.methodLink RX5 205 yX4_init, Cond.instanceMethod yX4_init, Cond.code yX4_init cX4_init 5 none, Cond.methodLink RX4 1 objectInit, Cond.instanceMethod objectInit, Cond.code objectInit ⟨#[0xb1]⟩ 1 none, Cond.fieldLink RX4 7 "UnionList$Sent" "kind" "I", Cond.fieldLink RX4 13 "UnionList$Sent" "arrival" "I", Cond.fieldLink RX4 16 "UnionList$Sent" "copy" "LUnionList$Copy;", Cond.fieldLink RX4 20 "UnionList$Sent" "request" "LUnionList$Request;", Cond.methodLink RX5 208 yX2_put, Cond.instanceMethod yX2_put, Cond.selects RX2 yX2_put yX2_put, Cond.initialized RX2, Cond.code yX2_put cX2_put 4 none, Cond.fieldLink RX2 21 "UnionList$Post" "size" "I", Cond.fieldLink RX2 15 "UnionList$Post" "waiting" "[LUnionList$Sent;"]
def wsX5_recall_r3 : List Cond := [Cond.fieldLink RX2 25 "UnionList$Sent" "arrival" "I"]
def wsX5_recall : List Cond := .code yX5_recall cX5_recall 4 (some .int) :: ((wsX5_recall_r1 ++ (wsX5_recall_r2 ++ wsX5_recall_r3)) ++ wsX30 ++ wsX10 ++ wsX50 ++ wsX40 ++ wsX20 ++ (vx_atS RX5 65 "java/lang/IllegalStateException" ["java/lang/RuntimeException", "java/lang/Exception"]).filter goodWord ++ (vx_atS RX5 197 "java/lang/IndexOutOfBoundsException" ["java/lang/RuntimeException", "java/lang/Exception"]).filter goodWord)
def wsX5_sendBack_r1 : List Cond := [Cond.classLink RX5 61 "java/lang/IllegalStateException", Cond.initialized "java/lang/IllegalStateException", Cond.fieldLink RX5 134 "UnionList$Request" "copy" "LUnionList$Copy;", Cond.fieldLink RX5 131 "UnionList$Request" "state" "I", Cond.fieldLink RX5 44 "UnionList" "day" "I", Cond.fieldLink RX5 143 "UnionList$Request" "dueDay" "I", Cond.methodLink RX5 165 Lib.Math.max.name, Cond.static Lib.Math.max.name, Cond.initialized "java/lang/Math", Cond.code Lib.Math.max.name Lib.Math.max.code 2 (some .int), Cond.fieldLink RX5 33 "UnionList" "accounts" "LUnionList$Accounts;", Cond.fieldLink RX5 146 "UnionList$Request" "house" "I", Cond.fieldLink RX5 149 "UnionList$Copy" "home" "I", Cond.fieldLink RX5 98 "UnionList$Copy" "onItsWay" "Z", Cond.methodLink RX5 127 yX5_requestNumbered, Cond.instanceMethod yX5_requestNumbered, Cond.selects RX5 yX5_requestNumbered yX5_requestNumbered, Cond.initialized RX5, Cond.code yX5_requestNumbered cX5_requestNumbered 3 (some (.object "UnionList$Request")), Cond.classLink RX5 193 "java/lang/IndexOutOfBoundsException", Cond.initialized "java/lang/IndexOutOfBoundsException", Cond.fieldLink RX5 17 "UnionList" "requests" "[LUnionList$Request;", Cond.methodLink RX5 170 yX0_charge, Cond.instanceMethod yX0_charge]
def wsX5_sendBack_r2 : List Cond := [Cond.selects RX0 yX0_charge yX0_charge, Cond.initialized RX0, Cond.code yX0_charge cX0_charge 4 none, Cond.fieldLink RX0 9 "UnionList$Accounts" "debts" "[I", Cond.static yX5_isHouse, Cond.code yX5_isHouse cX5_isHouse 1 (some .boolean), Cond.methodLink RX5 152 yX5_way, Cond.static yX5_way, Cond.code yX5_way cX5_way 2 (some .int), Cond.methodLink RX5 200 Lib.Math.abs.name, Cond.static Lib.Math.abs.name, Cond.code Lib.Math.abs.name Lib.Math.abs.code 1 (some .int), Cond.methodLink RX5 156 yX5_send, Cond.instanceMethod yX5_send, Cond.selects RX5 yX5_send yX5_send, Cond.code yX5_send cX5_send 6 (some .int), Cond.fieldLink RX5 26 "UnionList" "post" "LUnionList$Post;", Cond.classLink RX5 203 RX4, Cond.instantiable RX4 4, Cond.initialized RX4, Cond.methodLink RX5 205 yX4_init, Cond.instanceMethod yX4_init, Cond.code yX4_init cX4_init 5 none, Cond.methodLink RX4 1 objectInit]
def wsX5_sendBack_r3 : List Cond := [Cond.instanceMethod objectInit, Cond.code objectInit ⟨#[0xb1]⟩ 1 none, Cond.fieldLink RX4 7 "UnionList$Sent" "kind" "I", Cond.fieldLink RX4 13 "UnionList$Sent" "arrival" "I", Cond.fieldLink RX4 16 "UnionList$Sent" "copy" "LUnionList$Copy;", Cond.fieldLink RX4 20 "UnionList$Sent" "request" "LUnionList$Request;", Cond.methodLink RX5 208 yX2_put, Cond.instanceMethod yX2_put, Cond.selects RX2 yX2_put yX2_put, Cond.initialized RX2, Cond.code yX2_put cX2_put 4 none, Cond.fieldLink RX2 21 "UnionList$Post" "size" "I", Cond.fieldLink RX2 15 "UnionList$Post" "waiting" "[LUnionList$Sent;", Cond.fieldLink RX2 25 "UnionList$Sent" "arrival" "I"]
def wsX5_sendBack : List Cond := .code yX5_sendBack cX5_sendBack 5 (some .int) :: ((wsX5_sendBack_r1 ++ (wsX5_sendBack_r2 ++ wsX5_sendBack_r3)) ++ wsX30 ++ wsX50 ++ wsX10 ++ wsX00 ++ wsX40 ++ wsX20 ++ (vx_atS RX5 65 "java/lang/IllegalStateException" ["java/lang/RuntimeException", "java/lang/Exception"]).filter goodWord ++ (vx_atS RX5 197 "java/lang/IndexOutOfBoundsException" ["java/lang/RuntimeException", "java/lang/Exception"]).filter goodWord)
def wsX5_answerQuestion_r1 : List Cond := [Cond.fieldLink RX5 131 "UnionList$Request" "state" "I", Cond.fieldLink RX5 98 "UnionList$Copy" "onItsWay" "Z", Cond.fieldLink RX5 146 "UnionList$Request" "house" "I", Cond.fieldLink RX5 149 "UnionList$Copy" "home" "I", Cond.methodLink RX5 83 yX1_canBeSent, Cond.instanceMethod yX1_canBeSent, Cond.selects RX1 yX1_canBeSent yX1_canBeSent, Cond.initialized RX1, Cond.code yX1_canBeSent cX1_canBeSent 1 (some .boolean), Cond.fieldLink RX1 34 "UnionList$Copy" "harmKnown" "Z", Cond.methodLink RX1 37 yX1_isAtHome, Cond.instanceMethod yX1_isAtHome, Cond.selects RX1 yX1_isAtHome yX1_isAtHome, Cond.code yX1_isAtHome cX1_isAtHome 1 (some .boolean), Cond.fieldLink RX1 21 "UnionList$Copy" "holder" "I", Cond.fieldLink RX1 15 "UnionList$Copy" "home" "I", Cond.fieldLink RX1 24 "UnionList$Copy" "onItsWay" "Z", Cond.methodLink RX5 123 yX5_askNextHome, Cond.instanceMethod yX5_askNextHome, Cond.selects RX5 yX5_askNextHome yX5_askNextHome, Cond.initialized RX5, Cond.code yX5_askNextHome cX5_askNextHome 3 none, Cond.fieldLink RX5 134 "UnionList$Request" "copy" "LUnionList$Copy;", Cond.methodLink RX5 252 yX5_nearestListedFree]
def wsX5_answerQuestion_r2 : List Cond := [Cond.instanceMethod yX5_nearestListedFree, Cond.selects RX5 yX5_nearestListedFree yX5_nearestListedFree, Cond.code yX5_nearestListedFree cX5_nearestListedFree 9 (some (.object "UnionList$Copy")), Cond.fieldLink RX5 11 "UnionList" "copies" "[LUnionList$Copy;", Cond.methodLink RX5 259 yX3_mayAskFor, Cond.instanceMethod yX3_mayAskFor, Cond.selects RX3 yX3_mayAskFor yX3_mayAskFor, Cond.initialized RX3, Cond.code yX3_mayAskFor cX3_mayAskFor 3 (some .boolean), Cond.fieldLink RX3 32 "UnionList$Request" "askedHomes" "I", Cond.fieldLink RX3 35 "UnionList$Copy" "home" "I", Cond.fieldLink RX3 40 "UnionList$Copy" "title" "I", Cond.fieldLink RX3 15 "UnionList$Request" "title" "I", Cond.fieldLink RX3 41 "UnionList$Copy" "knownToList" "I", Cond.fieldLink RX3 9 "UnionList$Request" "house" "I", Cond.methodLink RX5 152 yX5_way, Cond.static yX5_way, Cond.code yX5_way cX5_way 2 (some .int), Cond.methodLink RX5 200 Lib.Math.abs.name, Cond.static Lib.Math.abs.name, Cond.initialized "java/lang/Math", Cond.code Lib.Math.abs.name Lib.Math.abs.code 1 (some .int), Cond.methodLink RX5 256 yX3_markAsked, Cond.instanceMethod yX3_markAsked]
def wsX5_answerQuestion_r3 : List Cond := [Cond.selects RX3 yX3_markAsked yX3_markAsked, Cond.code yX3_markAsked cX3_markAsked 2 none, Cond.methodLink RX5 156 yX5_send, Cond.instanceMethod yX5_send, Cond.selects RX5 yX5_send yX5_send, Cond.code yX5_send cX5_send 6 (some .int), Cond.fieldLink RX5 44 "UnionList" "day" "I", Cond.fieldLink RX5 26 "UnionList" "post" "LUnionList$Post;", Cond.classLink RX5 203 RX4, Cond.instantiable RX4 4, Cond.initialized RX4, Cond.methodLink RX5 205 yX4_init, Cond.instanceMethod yX4_init, Cond.code yX4_init cX4_init 5 none, Cond.methodLink RX4 1 objectInit, Cond.instanceMethod objectInit, Cond.code objectInit ⟨#[0xb1]⟩ 1 none, Cond.fieldLink RX4 7 "UnionList$Sent" "kind" "I", Cond.fieldLink RX4 13 "UnionList$Sent" "arrival" "I", Cond.fieldLink RX4 16 "UnionList$Sent" "copy" "LUnionList$Copy;", Cond.fieldLink RX4 20 "UnionList$Sent" "request" "LUnionList$Request;", Cond.methodLink RX5 208 yX2_put, Cond.instanceMethod yX2_put, Cond.selects RX2 yX2_put yX2_put]
def wsX5_answerQuestion_r4 : List Cond := [Cond.initialized RX2, Cond.code yX2_put cX2_put 4 none, Cond.fieldLink RX2 21 "UnionList$Post" "size" "I", Cond.fieldLink RX2 15 "UnionList$Post" "waiting" "[LUnionList$Sent;", Cond.fieldLink RX2 25 "UnionList$Sent" "arrival" "I", Cond.methodLink RX5 72 yX5_sendNews, Cond.instanceMethod yX5_sendNews, Cond.selects RX5 yX5_sendNews yX5_sendNews, Cond.code yX5_sendNews cX5_sendNews 3 none, Cond.methodLink RX5 212 yX5_wayToList, Cond.static yX5_wayToList, Cond.code yX5_wayToList cX5_wayToList 1 (some .int)]
def wsX5_answerQuestion : List Cond := .code yX5_answerQuestion cX5_answerQuestion 3 none :: ((wsX5_answerQuestion_r1 ++ (wsX5_answerQuestion_r2 ++ (wsX5_answerQuestion_r3 ++ wsX5_answerQuestion_r4))) ++ wsX30 ++ wsX10 ++ wsX50 ++ wsX40 ++ wsX20)
def wsX5_beginLoan : List Cond := .code yX5_beginLoan cX5_beginLoan 3 none :: ([.fieldLink RX5 146 "UnionList$Request" "house" "I", .fieldLink RX5 80 "UnionList$Copy" "holder" "I", .fieldLink RX5 98 "UnionList$Copy" "onItsWay" "Z", .fieldLink RX5 131 "UnionList$Request" "state" "I", .fieldLink RX5 44 "UnionList" "day" "I", .fieldLink RX5 143 "UnionList$Request" "dueDay" "I", .fieldLink RX5 33 "UnionList" "accounts" "LUnionList$Accounts;", .fieldLink RX5 149 "UnionList$Copy" "home" "I", .methodLink RX5 263 yX0_chargeLoan, .instanceMethod yX0_chargeLoan, .selects RX0 yX0_chargeLoan yX0_chargeLoan, .initialized RX0, .code yX0_chargeLoan cX0_chargeLoan 3 none, .fieldLink RX0 15 "UnionList$Accounts" "homeCopies" "[I", .fieldLink RX0 18 "UnionList$Accounts" "freeLoans" "[I", .static yX5_isHouse, .initialized RX5, .code yX5_isHouse cX5_isHouse 1 (some .boolean), .methodLink RX0 25 yX0_charge, .instanceMethod yX0_charge, .selects RX0 yX0_charge yX0_charge, .code yX0_charge cX0_charge 4 none, .fieldLink RX0 9 "UnionList$Accounts" "debts" "[I"] ++ wsX30 ++ wsX10 ++ wsX50 ++ wsX00)
def wsX5_comeHome_r1 : List Cond := [Cond.fieldLink RX5 149 "UnionList$Copy" "home" "I", Cond.fieldLink RX5 80 "UnionList$Copy" "holder" "I", Cond.fieldLink RX5 98 "UnionList$Copy" "onItsWay" "Z", Cond.fieldLink RX5 131 "UnionList$Request" "state" "I", Cond.methodLink RX5 104 yX5_examine, Cond.instanceMethod yX5_examine, Cond.selects RX5 yX5_examine yX5_examine, Cond.initialized RX5, Cond.code yX5_examine cX5_examine 2 (some .int), Cond.fieldLink RX5 111 "UnionList$Copy" "harmKnown" "Z", Cond.fieldLink RX5 95 "UnionList$Copy" "harmedBy" "I", Cond.fieldLink RX5 33 "UnionList" "accounts" "LUnionList$Accounts;", Cond.methodLink RX5 90 yX1_isHarmed, Cond.instanceMethod yX1_isHarmed, Cond.selects RX1 yX1_isHarmed yX1_isHarmed, Cond.initialized RX1, Cond.code yX1_isHarmed cX1_isHarmed 1 (some .boolean), Cond.fieldLink RX1 31 "UnionList$Copy" "harmedBy" "I", Cond.methodLink RX5 170 yX0_charge, Cond.instanceMethod yX0_charge, Cond.selects RX0 yX0_charge yX0_charge, Cond.initialized RX0, Cond.code yX0_charge cX0_charge 4 none, Cond.fieldLink RX0 9 "UnionList$Accounts" "debts" "[I"]
def wsX5_comeHome_r2 : List Cond := [Cond.static yX5_isHouse, Cond.code yX5_isHouse cX5_isHouse 1 (some .boolean), Cond.methodLink RX5 83 yX1_canBeSent, Cond.instanceMethod yX1_canBeSent, Cond.selects RX1 yX1_canBeSent yX1_canBeSent, Cond.code yX1_canBeSent cX1_canBeSent 1 (some .boolean), Cond.fieldLink RX1 34 "UnionList$Copy" "harmKnown" "Z", Cond.methodLink RX1 37 yX1_isAtHome, Cond.instanceMethod yX1_isAtHome, Cond.selects RX1 yX1_isAtHome yX1_isAtHome, Cond.code yX1_isAtHome cX1_isAtHome 1 (some .boolean), Cond.fieldLink RX1 21 "UnionList$Copy" "holder" "I", Cond.fieldLink RX1 15 "UnionList$Copy" "home" "I", Cond.fieldLink RX1 24 "UnionList$Copy" "onItsWay" "Z", Cond.methodLink RX5 72 yX5_sendNews, Cond.instanceMethod yX5_sendNews, Cond.selects RX5 yX5_sendNews yX5_sendNews, Cond.code yX5_sendNews cX5_sendNews 3 none, Cond.methodLink RX5 212 yX5_wayToList, Cond.static yX5_wayToList, Cond.code yX5_wayToList cX5_wayToList 1 (some .int), Cond.methodLink RX5 156 yX5_send, Cond.instanceMethod yX5_send, Cond.selects RX5 yX5_send yX5_send]
def wsX5_comeHome_r3 : List Cond := [Cond.code yX5_send cX5_send 6 (some .int), Cond.fieldLink RX5 44 "UnionList" "day" "I", Cond.fieldLink RX5 26 "UnionList" "post" "LUnionList$Post;", Cond.classLink RX5 203 RX4, Cond.instantiable RX4 4, Cond.initialized RX4, Cond.methodLink RX5 205 yX4_init, Cond.instanceMethod yX4_init, Cond.code yX4_init cX4_init 5 none, Cond.methodLink RX4 1 objectInit, Cond.instanceMethod objectInit, Cond.code objectInit ⟨#[0xb1]⟩ 1 none, Cond.fieldLink RX4 7 "UnionList$Sent" "kind" "I", Cond.fieldLink RX4 13 "UnionList$Sent" "arrival" "I", Cond.fieldLink RX4 16 "UnionList$Sent" "copy" "LUnionList$Copy;", Cond.fieldLink RX4 20 "UnionList$Sent" "request" "LUnionList$Request;", Cond.methodLink RX5 208 yX2_put, Cond.instanceMethod yX2_put, Cond.selects RX2 yX2_put yX2_put, Cond.initialized RX2, Cond.code yX2_put cX2_put 4 none, Cond.fieldLink RX2 21 "UnionList$Post" "size" "I", Cond.fieldLink RX2 15 "UnionList$Post" "waiting" "[LUnionList$Sent;", Cond.fieldLink RX2 25 "UnionList$Sent" "arrival" "I"]
def wsX5_comeHome : List Cond := .code yX5_comeHome cX5_comeHome 3 none :: ((wsX5_comeHome_r1 ++ (wsX5_comeHome_r2 ++ wsX5_comeHome_r3)) ++ wsX10 ++ wsX30 ++ wsX50 ++ wsX00 ++ wsX40 ++ wsX20)
def wsX5_prolong : List Cond := .code yX5_prolong cX5_prolong 2 none :: ([.fieldLink RX5 131 "UnionList$Request" "state" "I", .fieldLink RX5 160 "UnionList$Request" "recallSent" "Z", .fieldLink RX5 143 "UnionList$Request" "dueDay" "I"] ++ wsX30)
def wsX5_shorten : List Cond := .code yX5_shorten cX5_shorten 2 none :: ([.fieldLink RX5 131 "UnionList$Request" "state" "I", .fieldLink RX5 143 "UnionList$Request" "dueDay" "I", .fieldLink RX5 44 "UnionList" "day" "I", .methodLink RX5 266 Lib.Math.min.name, .static Lib.Math.min.name, .initialized "java/lang/Math", .code Lib.Math.min.name Lib.Math.min.code 2 (some .int)] ++ wsX30 ++ wsX50)
def wsX5_deliver_r1 : List Cond := [Cond.fieldLink RX5 228 "UnionList$Sent" "copy" "LUnionList$Copy;", Cond.fieldLink RX5 229 "UnionList$Sent" "request" "LUnionList$Request;", Cond.fieldLink RX5 233 "UnionList$Sent" "kind" "I", Cond.fieldLink RX5 87 "UnionList$Copy" "knownToList" "I", Cond.methodLink RX5 236 yX5_answerQuestion, Cond.instanceMethod yX5_answerQuestion, Cond.selects RX5 yX5_answerQuestion yX5_answerQuestion, Cond.initialized RX5, Cond.code yX5_answerQuestion cX5_answerQuestion 3 none, Cond.fieldLink RX5 131 "UnionList$Request" "state" "I", Cond.fieldLink RX5 98 "UnionList$Copy" "onItsWay" "Z", Cond.fieldLink RX5 146 "UnionList$Request" "house" "I", Cond.fieldLink RX5 149 "UnionList$Copy" "home" "I", Cond.methodLink RX5 83 yX1_canBeSent, Cond.instanceMethod yX1_canBeSent, Cond.selects RX1 yX1_canBeSent yX1_canBeSent, Cond.initialized RX1, Cond.code yX1_canBeSent cX1_canBeSent 1 (some .boolean), Cond.fieldLink RX1 34 "UnionList$Copy" "harmKnown" "Z", Cond.methodLink RX1 37 yX1_isAtHome, Cond.instanceMethod yX1_isAtHome, Cond.selects RX1 yX1_isAtHome yX1_isAtHome, Cond.code yX1_isAtHome cX1_isAtHome 1 (some .boolean), Cond.fieldLink RX1 21 "UnionList$Copy" "holder" "I"]
def wsX5_deliver_r2 : List Cond := [Cond.fieldLink RX1 15 "UnionList$Copy" "home" "I", Cond.fieldLink RX1 24 "UnionList$Copy" "onItsWay" "Z", Cond.methodLink RX5 123 yX5_askNextHome, Cond.instanceMethod yX5_askNextHome, Cond.selects RX5 yX5_askNextHome yX5_askNextHome, Cond.code yX5_askNextHome cX5_askNextHome 3 none, Cond.fieldLink RX5 134 "UnionList$Request" "copy" "LUnionList$Copy;", Cond.methodLink RX5 252 yX5_nearestListedFree, Cond.instanceMethod yX5_nearestListedFree, Cond.selects RX5 yX5_nearestListedFree yX5_nearestListedFree, Cond.code yX5_nearestListedFree cX5_nearestListedFree 9 (some (.object "UnionList$Copy")), Cond.fieldLink RX5 11 "UnionList" "copies" "[LUnionList$Copy;", Cond.methodLink RX5 259 yX3_mayAskFor, Cond.instanceMethod yX3_mayAskFor, Cond.selects RX3 yX3_mayAskFor yX3_mayAskFor, Cond.initialized RX3, Cond.code yX3_mayAskFor cX3_mayAskFor 3 (some .boolean), Cond.fieldLink RX3 32 "UnionList$Request" "askedHomes" "I", Cond.fieldLink RX3 35 "UnionList$Copy" "home" "I", Cond.fieldLink RX3 40 "UnionList$Copy" "title" "I", Cond.fieldLink RX3 15 "UnionList$Request" "title" "I", Cond.fieldLink RX3 41 "UnionList$Copy" "knownToList" "I", Cond.fieldLink RX3 9 "UnionList$Request" "house" "I", Cond.methodLink RX5 152 yX5_way]
def wsX5_deliver_r3 : List Cond := [Cond.static yX5_way, Cond.code yX5_way cX5_way 2 (some .int), Cond.methodLink RX5 200 Lib.Math.abs.name, Cond.static Lib.Math.abs.name, Cond.initialized "java/lang/Math", Cond.code Lib.Math.abs.name Lib.Math.abs.code 1 (some .int), Cond.methodLink RX5 256 yX3_markAsked, Cond.instanceMethod yX3_markAsked, Cond.selects RX3 yX3_markAsked yX3_markAsked, Cond.code yX3_markAsked cX3_markAsked 2 none, Cond.methodLink RX5 156 yX5_send, Cond.instanceMethod yX5_send, Cond.selects RX5 yX5_send yX5_send, Cond.code yX5_send cX5_send 6 (some .int), Cond.fieldLink RX5 44 "UnionList" "day" "I", Cond.fieldLink RX5 26 "UnionList" "post" "LUnionList$Post;", Cond.classLink RX5 203 RX4, Cond.instantiable RX4 4, Cond.initialized RX4, Cond.methodLink RX5 205 yX4_init, Cond.instanceMethod yX4_init, Cond.code yX4_init cX4_init 5 none, Cond.methodLink RX4 1 objectInit, Cond.instanceMethod objectInit]
def wsX5_deliver_r4 : List Cond := [Cond.code objectInit ⟨#[0xb1]⟩ 1 none, Cond.fieldLink RX4 7 "UnionList$Sent" "kind" "I", Cond.fieldLink RX4 13 "UnionList$Sent" "arrival" "I", Cond.fieldLink RX4 16 "UnionList$Sent" "copy" "LUnionList$Copy;", Cond.fieldLink RX4 20 "UnionList$Sent" "request" "LUnionList$Request;", Cond.methodLink RX5 208 yX2_put, Cond.instanceMethod yX2_put, Cond.selects RX2 yX2_put yX2_put, Cond.initialized RX2, Cond.code yX2_put cX2_put 4 none, Cond.fieldLink RX2 21 "UnionList$Post" "size" "I", Cond.fieldLink RX2 15 "UnionList$Post" "waiting" "[LUnionList$Sent;", Cond.fieldLink RX2 25 "UnionList$Sent" "arrival" "I", Cond.methodLink RX5 72 yX5_sendNews, Cond.instanceMethod yX5_sendNews, Cond.selects RX5 yX5_sendNews yX5_sendNews, Cond.code yX5_sendNews cX5_sendNews 3 none, Cond.methodLink RX5 212 yX5_wayToList, Cond.static yX5_wayToList, Cond.code yX5_wayToList cX5_wayToList 1 (some .int), Cond.methodLink RX5 240 yX5_beginLoan, Cond.instanceMethod yX5_beginLoan, Cond.selects RX5 yX5_beginLoan yX5_beginLoan, Cond.code yX5_beginLoan cX5_beginLoan 3 none]
def wsX5_deliver_r5 : List Cond := [Cond.fieldLink RX5 80 "UnionList$Copy" "holder" "I", Cond.fieldLink RX5 143 "UnionList$Request" "dueDay" "I", Cond.fieldLink RX5 33 "UnionList" "accounts" "LUnionList$Accounts;", Cond.methodLink RX5 263 yX0_chargeLoan, Cond.instanceMethod yX0_chargeLoan, Cond.selects RX0 yX0_chargeLoan yX0_chargeLoan, Cond.initialized RX0, Cond.code yX0_chargeLoan cX0_chargeLoan 3 none, Cond.fieldLink RX0 15 "UnionList$Accounts" "homeCopies" "[I", Cond.fieldLink RX0 18 "UnionList$Accounts" "freeLoans" "[I", Cond.static yX5_isHouse, Cond.code yX5_isHouse cX5_isHouse 1 (some .boolean), Cond.methodLink RX0 25 yX0_charge, Cond.instanceMethod yX0_charge, Cond.selects RX0 yX0_charge yX0_charge, Cond.code yX0_charge cX0_charge 4 none, Cond.fieldLink RX0 9 "UnionList$Accounts" "debts" "[I", Cond.methodLink RX5 243 yX5_comeHome, Cond.instanceMethod yX5_comeHome, Cond.selects RX5 yX5_comeHome yX5_comeHome, Cond.code yX5_comeHome cX5_comeHome 3 none, Cond.methodLink RX5 104 yX5_examine, Cond.instanceMethod yX5_examine, Cond.selects RX5 yX5_examine yX5_examine]
def wsX5_deliver_r6 : List Cond := [Cond.code yX5_examine cX5_examine 2 (some .int), Cond.fieldLink RX5 111 "UnionList$Copy" "harmKnown" "Z", Cond.fieldLink RX5 95 "UnionList$Copy" "harmedBy" "I", Cond.methodLink RX5 90 yX1_isHarmed, Cond.instanceMethod yX1_isHarmed, Cond.selects RX1 yX1_isHarmed yX1_isHarmed, Cond.code yX1_isHarmed cX1_isHarmed 1 (some .boolean), Cond.fieldLink RX1 31 "UnionList$Copy" "harmedBy" "I", Cond.methodLink RX5 170 yX0_charge, Cond.methodLink RX5 246 yX5_prolong, Cond.instanceMethod yX5_prolong, Cond.selects RX5 yX5_prolong yX5_prolong, Cond.code yX5_prolong cX5_prolong 2 none, Cond.fieldLink RX5 160 "UnionList$Request" "recallSent" "Z", Cond.methodLink RX5 249 yX5_shorten, Cond.instanceMethod yX5_shorten, Cond.selects RX5 yX5_shorten yX5_shorten, Cond.code yX5_shorten cX5_shorten 2 none, Cond.methodLink RX5 266 Lib.Math.min.name, Cond.static Lib.Math.min.name, Cond.code Lib.Math.min.name Lib.Math.min.code 2 (some .int)]
def wsX5_deliver : List Cond := .code yX5_deliver cX5_deliver 4 none :: ((wsX5_deliver_r1 ++ (wsX5_deliver_r2 ++ (wsX5_deliver_r3 ++ (wsX5_deliver_r4 ++ (wsX5_deliver_r5 ++ wsX5_deliver_r6))))) ++ wsX40 ++ wsX10 ++ wsX30 ++ wsX50 ++ wsX20 ++ wsX00)
def wsX5_arrivalsOfNextDay_r1 : List Cond := [Cond.fieldLink RX5 44 "UnionList" "day" "I", Cond.fieldLink RX5 33 "UnionList" "accounts" "LUnionList$Accounts;", Cond.fieldLink RX5 26 "UnionList" "post" "LUnionList$Post;", Cond.fieldLink RX5 218 "UnionList$Post" "size" "I", Cond.methodLink RX5 215 yX0_beginQuarter, Cond.instanceMethod yX0_beginQuarter, Cond.selects RX0 yX0_beginQuarter yX0_beginQuarter, Cond.initialized RX0, Cond.code yX0_beginQuarter cX0_beginQuarter 2 none, Cond.fieldLink RX0 18 "UnionList$Accounts" "freeLoans" "[I", Cond.methodLink RX5 221 yX2_takeArrived, Cond.instanceMethod yX2_takeArrived, Cond.selects RX2 yX2_takeArrived yX2_takeArrived, Cond.initialized RX2, Cond.code yX2_takeArrived cX2_takeArrived 4 (some (.object "UnionList$Sent")), Cond.fieldLink RX2 21 "UnionList$Post" "size" "I", Cond.fieldLink RX2 15 "UnionList$Post" "waiting" "[LUnionList$Sent;", Cond.fieldLink RX2 25 "UnionList$Sent" "arrival" "I", Cond.methodLink RX5 225 yX5_deliver, Cond.instanceMethod yX5_deliver, Cond.selects RX5 yX5_deliver yX5_deliver, Cond.initialized RX5, Cond.code yX5_deliver cX5_deliver 4 none, Cond.fieldLink RX5 228 "UnionList$Sent" "copy" "LUnionList$Copy;"]
def wsX5_arrivalsOfNextDay_r2 : List Cond := [Cond.fieldLink RX5 229 "UnionList$Sent" "request" "LUnionList$Request;", Cond.fieldLink RX5 233 "UnionList$Sent" "kind" "I", Cond.fieldLink RX5 87 "UnionList$Copy" "knownToList" "I", Cond.methodLink RX5 236 yX5_answerQuestion, Cond.instanceMethod yX5_answerQuestion, Cond.selects RX5 yX5_answerQuestion yX5_answerQuestion, Cond.code yX5_answerQuestion cX5_answerQuestion 3 none, Cond.fieldLink RX5 131 "UnionList$Request" "state" "I", Cond.fieldLink RX5 98 "UnionList$Copy" "onItsWay" "Z", Cond.fieldLink RX5 146 "UnionList$Request" "house" "I", Cond.fieldLink RX5 149 "UnionList$Copy" "home" "I", Cond.methodLink RX5 83 yX1_canBeSent, Cond.instanceMethod yX1_canBeSent, Cond.selects RX1 yX1_canBeSent yX1_canBeSent, Cond.initialized RX1, Cond.code yX1_canBeSent cX1_canBeSent 1 (some .boolean), Cond.fieldLink RX1 34 "UnionList$Copy" "harmKnown" "Z", Cond.methodLink RX1 37 yX1_isAtHome, Cond.instanceMethod yX1_isAtHome, Cond.selects RX1 yX1_isAtHome yX1_isAtHome, Cond.code yX1_isAtHome cX1_isAtHome 1 (some .boolean), Cond.fieldLink RX1 21 "UnionList$Copy" "holder" "I", Cond.fieldLink RX1 15 "UnionList$Copy" "home" "I", Cond.fieldLink RX1 24 "UnionList$Copy" "onItsWay" "Z"]
def wsX5_arrivalsOfNextDay_r3 : List Cond := [Cond.methodLink RX5 123 yX5_askNextHome, Cond.instanceMethod yX5_askNextHome, Cond.selects RX5 yX5_askNextHome yX5_askNextHome, Cond.code yX5_askNextHome cX5_askNextHome 3 none, Cond.fieldLink RX5 134 "UnionList$Request" "copy" "LUnionList$Copy;", Cond.methodLink RX5 252 yX5_nearestListedFree, Cond.instanceMethod yX5_nearestListedFree, Cond.selects RX5 yX5_nearestListedFree yX5_nearestListedFree, Cond.code yX5_nearestListedFree cX5_nearestListedFree 9 (some (.object "UnionList$Copy")), Cond.fieldLink RX5 11 "UnionList" "copies" "[LUnionList$Copy;", Cond.methodLink RX5 259 yX3_mayAskFor, Cond.instanceMethod yX3_mayAskFor, Cond.selects RX3 yX3_mayAskFor yX3_mayAskFor, Cond.initialized RX3, Cond.code yX3_mayAskFor cX3_mayAskFor 3 (some .boolean), Cond.fieldLink RX3 32 "UnionList$Request" "askedHomes" "I", Cond.fieldLink RX3 35 "UnionList$Copy" "home" "I", Cond.fieldLink RX3 40 "UnionList$Copy" "title" "I", Cond.fieldLink RX3 15 "UnionList$Request" "title" "I", Cond.fieldLink RX3 41 "UnionList$Copy" "knownToList" "I", Cond.fieldLink RX3 9 "UnionList$Request" "house" "I", Cond.methodLink RX5 152 yX5_way, Cond.static yX5_way, Cond.code yX5_way cX5_way 2 (some .int)]
def wsX5_arrivalsOfNextDay_r4 : List Cond := [Cond.methodLink RX5 200 Lib.Math.abs.name, Cond.static Lib.Math.abs.name, Cond.initialized "java/lang/Math", Cond.code Lib.Math.abs.name Lib.Math.abs.code 1 (some .int), Cond.methodLink RX5 256 yX3_markAsked, Cond.instanceMethod yX3_markAsked, Cond.selects RX3 yX3_markAsked yX3_markAsked, Cond.code yX3_markAsked cX3_markAsked 2 none, Cond.methodLink RX5 156 yX5_send, Cond.instanceMethod yX5_send, Cond.selects RX5 yX5_send yX5_send, Cond.code yX5_send cX5_send 6 (some .int), Cond.classLink RX5 203 RX4, Cond.instantiable RX4 4, Cond.initialized RX4, Cond.methodLink RX5 205 yX4_init, Cond.instanceMethod yX4_init, Cond.code yX4_init cX4_init 5 none, Cond.methodLink RX4 1 objectInit, Cond.instanceMethod objectInit, Cond.code objectInit ⟨#[0xb1]⟩ 1 none, Cond.fieldLink RX4 7 "UnionList$Sent" "kind" "I", Cond.fieldLink RX4 13 "UnionList$Sent" "arrival" "I", Cond.fieldLink RX4 16 "UnionList$Sent" "copy" "LUnionList$Copy;"]
def wsX5_arrivalsOfNextDay_r5 : List Cond := [Cond.fieldLink RX4 20 "UnionList$Sent" "request" "LUnionList$Request;", Cond.methodLink RX5 208 yX2_put, Cond.instanceMethod yX2_put, Cond.selects RX2 yX2_put yX2_put, Cond.code yX2_put cX2_put 4 none, Cond.methodLink RX5 72 yX5_sendNews, Cond.instanceMethod yX5_sendNews, Cond.selects RX5 yX5_sendNews yX5_sendNews, Cond.code yX5_sendNews cX5_sendNews 3 none, Cond.methodLink RX5 212 yX5_wayToList, Cond.static yX5_wayToList, Cond.code yX5_wayToList cX5_wayToList 1 (some .int), Cond.methodLink RX5 240 yX5_beginLoan, Cond.instanceMethod yX5_beginLoan, Cond.selects RX5 yX5_beginLoan yX5_beginLoan, Cond.code yX5_beginLoan cX5_beginLoan 3 none, Cond.fieldLink RX5 80 "UnionList$Copy" "holder" "I", Cond.fieldLink RX5 143 "UnionList$Request" "dueDay" "I", Cond.methodLink RX5 263 yX0_chargeLoan, Cond.instanceMethod yX0_chargeLoan, Cond.selects RX0 yX0_chargeLoan yX0_chargeLoan, Cond.code yX0_chargeLoan cX0_chargeLoan 3 none, Cond.fieldLink RX0 15 "UnionList$Accounts" "homeCopies" "[I", Cond.static yX5_isHouse]
def wsX5_arrivalsOfNextDay_r6 : List Cond := [Cond.code yX5_isHouse cX5_isHouse 1 (some .boolean), Cond.methodLink RX0 25 yX0_charge, Cond.instanceMethod yX0_charge, Cond.selects RX0 yX0_charge yX0_charge, Cond.code yX0_charge cX0_charge 4 none, Cond.fieldLink RX0 9 "UnionList$Accounts" "debts" "[I", Cond.methodLink RX5 243 yX5_comeHome, Cond.instanceMethod yX5_comeHome, Cond.selects RX5 yX5_comeHome yX5_comeHome, Cond.code yX5_comeHome cX5_comeHome 3 none, Cond.methodLink RX5 104 yX5_examine, Cond.instanceMethod yX5_examine, Cond.selects RX5 yX5_examine yX5_examine, Cond.code yX5_examine cX5_examine 2 (some .int), Cond.fieldLink RX5 111 "UnionList$Copy" "harmKnown" "Z", Cond.fieldLink RX5 95 "UnionList$Copy" "harmedBy" "I", Cond.methodLink RX5 90 yX1_isHarmed, Cond.instanceMethod yX1_isHarmed, Cond.selects RX1 yX1_isHarmed yX1_isHarmed, Cond.code yX1_isHarmed cX1_isHarmed 1 (some .boolean), Cond.fieldLink RX1 31 "UnionList$Copy" "harmedBy" "I", Cond.methodLink RX5 170 yX0_charge, Cond.methodLink RX5 246 yX5_prolong, Cond.instanceMethod yX5_prolong]
def wsX5_arrivalsOfNextDay_r7 : List Cond := [Cond.selects RX5 yX5_prolong yX5_prolong, Cond.code yX5_prolong cX5_prolong 2 none, Cond.fieldLink RX5 160 "UnionList$Request" "recallSent" "Z", Cond.methodLink RX5 249 yX5_shorten, Cond.instanceMethod yX5_shorten, Cond.selects RX5 yX5_shorten yX5_shorten, Cond.code yX5_shorten cX5_shorten 2 none, Cond.methodLink RX5 266 Lib.Math.min.name, Cond.static Lib.Math.min.name, Cond.code Lib.Math.min.name Lib.Math.min.code 2 (some .int)]
def wsX5_arrivalsOfNextDay : List Cond := .code yX5_arrivalsOfNextDay cX5_arrivalsOfNextDay 5 (some .int) :: ((wsX5_arrivalsOfNextDay_r1 ++ (wsX5_arrivalsOfNextDay_r2 ++ (wsX5_arrivalsOfNextDay_r3 ++ (wsX5_arrivalsOfNextDay_r4 ++ (wsX5_arrivalsOfNextDay_r5 ++ (wsX5_arrivalsOfNextDay_r6 ++ wsX5_arrivalsOfNextDay_r7)))))) ++ wsX50 ++ wsX20 ++ wsX00 ++ wsX40 ++ wsX10 ++ wsX30)
def wsX5_pass_r1 : List Cond := [Cond.classLink RX5 54 "java/lang/IllegalArgumentException", Cond.initialized "java/lang/IllegalArgumentException", Cond.methodLink RX5 175 yX5_arrivalsOfNextDay, Cond.instanceMethod yX5_arrivalsOfNextDay, Cond.selects RX5 yX5_arrivalsOfNextDay yX5_arrivalsOfNextDay, Cond.initialized RX5, Cond.code yX5_arrivalsOfNextDay cX5_arrivalsOfNextDay 5 (some .int), Cond.fieldLink RX5 44 "UnionList" "day" "I", Cond.fieldLink RX5 33 "UnionList" "accounts" "LUnionList$Accounts;", Cond.fieldLink RX5 26 "UnionList" "post" "LUnionList$Post;", Cond.fieldLink RX5 218 "UnionList$Post" "size" "I", Cond.methodLink RX5 215 yX0_beginQuarter, Cond.instanceMethod yX0_beginQuarter, Cond.selects RX0 yX0_beginQuarter yX0_beginQuarter, Cond.initialized RX0, Cond.code yX0_beginQuarter cX0_beginQuarter 2 none, Cond.fieldLink RX0 18 "UnionList$Accounts" "freeLoans" "[I", Cond.methodLink RX5 221 yX2_takeArrived, Cond.instanceMethod yX2_takeArrived, Cond.selects RX2 yX2_takeArrived yX2_takeArrived, Cond.initialized RX2, Cond.code yX2_takeArrived cX2_takeArrived 4 (some (.object "UnionList$Sent")), Cond.fieldLink RX2 21 "UnionList$Post" "size" "I", Cond.fieldLink RX2 15 "UnionList$Post" "waiting" "[LUnionList$Sent;"]
def wsX5_pass_r2 : List Cond := [Cond.fieldLink RX2 25 "UnionList$Sent" "arrival" "I", Cond.methodLink RX5 225 yX5_deliver, Cond.instanceMethod yX5_deliver, Cond.selects RX5 yX5_deliver yX5_deliver, Cond.code yX5_deliver cX5_deliver 4 none, Cond.fieldLink RX5 228 "UnionList$Sent" "copy" "LUnionList$Copy;", Cond.fieldLink RX5 229 "UnionList$Sent" "request" "LUnionList$Request;", Cond.fieldLink RX5 233 "UnionList$Sent" "kind" "I", Cond.fieldLink RX5 87 "UnionList$Copy" "knownToList" "I", Cond.methodLink RX5 236 yX5_answerQuestion, Cond.instanceMethod yX5_answerQuestion, Cond.selects RX5 yX5_answerQuestion yX5_answerQuestion, Cond.code yX5_answerQuestion cX5_answerQuestion 3 none, Cond.fieldLink RX5 131 "UnionList$Request" "state" "I", Cond.fieldLink RX5 98 "UnionList$Copy" "onItsWay" "Z", Cond.fieldLink RX5 146 "UnionList$Request" "house" "I", Cond.fieldLink RX5 149 "UnionList$Copy" "home" "I", Cond.methodLink RX5 83 yX1_canBeSent, Cond.instanceMethod yX1_canBeSent, Cond.selects RX1 yX1_canBeSent yX1_canBeSent, Cond.initialized RX1, Cond.code yX1_canBeSent cX1_canBeSent 1 (some .boolean), Cond.fieldLink RX1 34 "UnionList$Copy" "harmKnown" "Z", Cond.methodLink RX1 37 yX1_isAtHome]
def wsX5_pass_r3 : List Cond := [Cond.instanceMethod yX1_isAtHome, Cond.selects RX1 yX1_isAtHome yX1_isAtHome, Cond.code yX1_isAtHome cX1_isAtHome 1 (some .boolean), Cond.fieldLink RX1 21 "UnionList$Copy" "holder" "I", Cond.fieldLink RX1 15 "UnionList$Copy" "home" "I", Cond.fieldLink RX1 24 "UnionList$Copy" "onItsWay" "Z", Cond.methodLink RX5 123 yX5_askNextHome, Cond.instanceMethod yX5_askNextHome, Cond.selects RX5 yX5_askNextHome yX5_askNextHome, Cond.code yX5_askNextHome cX5_askNextHome 3 none, Cond.fieldLink RX5 134 "UnionList$Request" "copy" "LUnionList$Copy;", Cond.methodLink RX5 252 yX5_nearestListedFree, Cond.instanceMethod yX5_nearestListedFree, Cond.selects RX5 yX5_nearestListedFree yX5_nearestListedFree, Cond.code yX5_nearestListedFree cX5_nearestListedFree 9 (some (.object "UnionList$Copy")), Cond.fieldLink RX5 11 "UnionList" "copies" "[LUnionList$Copy;", Cond.methodLink RX5 259 yX3_mayAskFor, Cond.instanceMethod yX3_mayAskFor, Cond.selects RX3 yX3_mayAskFor yX3_mayAskFor, Cond.initialized RX3, Cond.code yX3_mayAskFor cX3_mayAskFor 3 (some .boolean), Cond.fieldLink RX3 32 "UnionList$Request" "askedHomes" "I", Cond.fieldLink RX3 35 "UnionList$Copy" "home" "I", Cond.fieldLink RX3 40 "UnionList$Copy" "title" "I"]
def wsX5_pass_r4 : List Cond := [Cond.fieldLink RX3 15 "UnionList$Request" "title" "I", Cond.fieldLink RX3 41 "UnionList$Copy" "knownToList" "I", Cond.fieldLink RX3 9 "UnionList$Request" "house" "I", Cond.methodLink RX5 152 yX5_way, Cond.static yX5_way, Cond.code yX5_way cX5_way 2 (some .int), Cond.methodLink RX5 200 Lib.Math.abs.name, Cond.static Lib.Math.abs.name, Cond.initialized "java/lang/Math", Cond.code Lib.Math.abs.name Lib.Math.abs.code 1 (some .int), Cond.methodLink RX5 256 yX3_markAsked, Cond.instanceMethod yX3_markAsked, Cond.selects RX3 yX3_markAsked yX3_markAsked, Cond.code yX3_markAsked cX3_markAsked 2 none, Cond.methodLink RX5 156 yX5_send, Cond.instanceMethod yX5_send, Cond.selects RX5 yX5_send yX5_send, Cond.code yX5_send cX5_send 6 (some .int), Cond.classLink RX5 203 RX4, Cond.instantiable RX4 4, Cond.initialized RX4, Cond.methodLink RX5 205 yX4_init, Cond.instanceMethod yX4_init, Cond.code yX4_init cX4_init 5 none]
def wsX5_pass_r5 : List Cond := [Cond.methodLink RX4 1 objectInit, Cond.instanceMethod objectInit, Cond.code objectInit ⟨#[0xb1]⟩ 1 none, Cond.fieldLink RX4 7 "UnionList$Sent" "kind" "I", Cond.fieldLink RX4 13 "UnionList$Sent" "arrival" "I", Cond.fieldLink RX4 16 "UnionList$Sent" "copy" "LUnionList$Copy;", Cond.fieldLink RX4 20 "UnionList$Sent" "request" "LUnionList$Request;", Cond.methodLink RX5 208 yX2_put, Cond.instanceMethod yX2_put, Cond.selects RX2 yX2_put yX2_put, Cond.code yX2_put cX2_put 4 none, Cond.methodLink RX5 72 yX5_sendNews, Cond.instanceMethod yX5_sendNews, Cond.selects RX5 yX5_sendNews yX5_sendNews, Cond.code yX5_sendNews cX5_sendNews 3 none, Cond.methodLink RX5 212 yX5_wayToList, Cond.static yX5_wayToList, Cond.code yX5_wayToList cX5_wayToList 1 (some .int), Cond.methodLink RX5 240 yX5_beginLoan, Cond.instanceMethod yX5_beginLoan, Cond.selects RX5 yX5_beginLoan yX5_beginLoan, Cond.code yX5_beginLoan cX5_beginLoan 3 none, Cond.fieldLink RX5 80 "UnionList$Copy" "holder" "I", Cond.fieldLink RX5 143 "UnionList$Request" "dueDay" "I"]
def wsX5_pass_r6 : List Cond := [Cond.methodLink RX5 263 yX0_chargeLoan, Cond.instanceMethod yX0_chargeLoan, Cond.selects RX0 yX0_chargeLoan yX0_chargeLoan, Cond.code yX0_chargeLoan cX0_chargeLoan 3 none, Cond.fieldLink RX0 15 "UnionList$Accounts" "homeCopies" "[I", Cond.static yX5_isHouse, Cond.code yX5_isHouse cX5_isHouse 1 (some .boolean), Cond.methodLink RX0 25 yX0_charge, Cond.instanceMethod yX0_charge, Cond.selects RX0 yX0_charge yX0_charge, Cond.code yX0_charge cX0_charge 4 none, Cond.fieldLink RX0 9 "UnionList$Accounts" "debts" "[I", Cond.methodLink RX5 243 yX5_comeHome, Cond.instanceMethod yX5_comeHome, Cond.selects RX5 yX5_comeHome yX5_comeHome, Cond.code yX5_comeHome cX5_comeHome 3 none, Cond.methodLink RX5 104 yX5_examine, Cond.instanceMethod yX5_examine, Cond.selects RX5 yX5_examine yX5_examine, Cond.code yX5_examine cX5_examine 2 (some .int), Cond.fieldLink RX5 111 "UnionList$Copy" "harmKnown" "Z", Cond.fieldLink RX5 95 "UnionList$Copy" "harmedBy" "I", Cond.methodLink RX5 90 yX1_isHarmed, Cond.instanceMethod yX1_isHarmed]
def wsX5_pass_r7 : List Cond := [Cond.selects RX1 yX1_isHarmed yX1_isHarmed, Cond.code yX1_isHarmed cX1_isHarmed 1 (some .boolean), Cond.fieldLink RX1 31 "UnionList$Copy" "harmedBy" "I", Cond.methodLink RX5 170 yX0_charge, Cond.methodLink RX5 246 yX5_prolong, Cond.instanceMethod yX5_prolong, Cond.selects RX5 yX5_prolong yX5_prolong, Cond.code yX5_prolong cX5_prolong 2 none, Cond.fieldLink RX5 160 "UnionList$Request" "recallSent" "Z", Cond.methodLink RX5 249 yX5_shorten, Cond.instanceMethod yX5_shorten, Cond.selects RX5 yX5_shorten yX5_shorten, Cond.code yX5_shorten cX5_shorten 2 none, Cond.methodLink RX5 266 Lib.Math.min.name, Cond.static Lib.Math.min.name, Cond.code Lib.Math.min.name Lib.Math.min.code 2 (some .int)]
def wsX5_pass : List Cond := .code yX5_pass cX5_pass 4 (some .int) :: ((wsX5_pass_r1 ++ (wsX5_pass_r2 ++ (wsX5_pass_r3 ++ (wsX5_pass_r4 ++ (wsX5_pass_r5 ++ (wsX5_pass_r6 ++ wsX5_pass_r7)))))) ++ wsX50 ++ wsX20 ++ wsX00 ++ wsX40 ++ wsX10 ++ wsX30 ++ (vx_atS RX5 58 "java/lang/IllegalArgumentException" ["java/lang/RuntimeException", "java/lang/Exception"]).filter goodWord)
def wsX5_today : List Cond := .code yX5_today cX5_today 1 (some .int) :: ([.fieldLink RX5 44 "UnionList" "day" "I"] ++ wsX50)
def wsX5_owes : List Cond := .code yX5_owes cX5_owes 3 (some .int) :: ([.classLink RX5 54 "java/lang/IllegalArgumentException", .initialized "java/lang/IllegalArgumentException", .fieldLink RX5 33 "UnionList" "accounts" "LUnionList$Accounts;", .methodLink RX5 47 yX5_isHouse, .static yX5_isHouse, .initialized RX5, .code yX5_isHouse cX5_isHouse 1 (some .boolean), .methodLink RX5 181 yX0_balance, .instanceMethod yX0_balance, .selects RX0 yX0_balance yX0_balance, .initialized RX0, .code yX0_balance cX0_balance 3 (some .int), .fieldLink RX0 9 "UnionList$Accounts" "debts" "[I"] ++ wsX50 ++ wsX00 ++ (vx_atS RX5 58 "java/lang/IllegalArgumentException" ["java/lang/RuntimeException", "java/lang/Exception"]).filter goodWord)
def wsX5_settle : List Cond := .code yX5_settle cX5_settle 1 (some .int) :: ([.fieldLink RX5 33 "UnionList" "accounts" "LUnionList$Accounts;", .methodLink RX5 184 yX0_clearDebts, .instanceMethod yX0_clearDebts, .selects RX0 yX0_clearDebts yX0_clearDebts, .initialized RX0, .code yX0_clearDebts cX0_clearDebts 4 (some .int), .fieldLink RX0 9 "UnionList$Accounts" "debts" "[I", .methodLink RX0 29 yX0_balance, .instanceMethod yX0_balance, .selects RX0 yX0_balance yX0_balance, .code yX0_balance cX0_balance 3 (some .int), .static yX5_isHouse, .initialized RX5, .code yX5_isHouse cX5_isHouse 1 (some .boolean)] ++ wsX50 ++ wsX00)
def wsX5_quota : List Cond := .code yX5_quota cX5_quota 2 (some .int) :: ([.classLink RX5 54 "java/lang/IllegalArgumentException", .initialized "java/lang/IllegalArgumentException", .fieldLink RX5 33 "UnionList" "accounts" "LUnionList$Accounts;", .methodLink RX5 47 yX5_isHouse, .static yX5_isHouse, .initialized RX5, .code yX5_isHouse cX5_isHouse 1 (some .boolean), .methodLink RX5 189 yX0_freeLoansOf, .instanceMethod yX0_freeLoansOf, .selects RX0 yX0_freeLoansOf yX0_freeLoansOf, .initialized RX0, .code yX0_freeLoansOf cX0_freeLoansOf 2 (some .int), .fieldLink RX0 18 "UnionList$Accounts" "freeLoans" "[I"] ++ wsX50 ++ wsX00 ++ (vx_atS RX5 58 "java/lang/IllegalArgumentException" ["java/lang/RuntimeException", "java/lang/Exception"]).filter goodWord)
def wsX6_init : List Cond := .code yX6_init cX6_init 1 none :: ([.methodLink RX6 1 objectInit, .instanceMethod objectInit, .code objectInit ⟨#[0xb1]⟩ 1 none, .arrayClass .int, .fieldLink RX6 7 "UnionListModel" "home" "[I", .fieldLink RX6 13 "UnionListModel" "title" "[I", .fieldLink RX6 16 "UnionListModel" "place" "[I", .fieldLink RX6 19 "UnionListModel" "hands" "[I", .fieldLink RX6 22 "UnionListModel" "knows" "[I", .fieldLink RX6 25 "UnionListModel" "harmed" "[I", .fieldLink RX6 28 "UnionListModel" "seen" "[I", .fieldLink RX6 31 "UnionListModel" "whose" "[I", .fieldLink RX6 34 "UnionListModel" "wanted" "[I", .fieldLink RX6 37 "UnionListModel" "stage" "[I", .fieldLink RX6 40 "UnionListModel" "loaned" "[I", .fieldLink RX6 43 "UnionListModel" "until" "[I", .fieldLink RX6 46 "UnionListModel" "asked" "[I", .fieldLink RX6 49 "UnionListModel" "called" "[I", .fieldLink RX6 52 "UnionListModel" "kind" "[I", .fieldLink RX6 55 "UnionListModel" "what" "[I", .fieldLink RX6 58 "UnionListModel" "day" "[I", .fieldLink RX6 61 "UnionListModel" "debt" "[I", .fieldLink RX6 64 "UnionListModel" "spared" "[I"] ++ wsX60)
def wsX6_thrown : List Cond := .code yX6_thrown cX6_thrown 1 (some .int) :: ([.fieldLink RX6 67 "UnionListModel" "thrown" "I"] ++ wsX60)
def wsX6_holds : List Cond := .code yX6_holds cX6_holds 2 (some .boolean) :: ([.fieldLink RX6 67 "UnionListModel" "thrown" "I"] ++ wsX60)
def wsX6_plain : List Cond := .code yX6_plain cX6_plain 2 (some .int) :: ([.fieldLink RX6 67 "UnionListModel" "thrown" "I"] ++ wsX60)
def wsX6_between : List Cond := .code yX6_between cX6_between 4 (some .boolean) :: ([])
def wsX6_isHouse : List Cond := .code yX6_isHouse cX6_isHouse 2 (some .boolean) :: ([.methodLink RX6 71 yX6_between, .instanceMethod yX6_between, .selects RX6 yX6_between yX6_between, .initialized RX6, .code yX6_between cX6_between 4 (some .boolean)])
def wsX6_isCopy : List Cond := .code yX6_isCopy cX6_isCopy 2 (some .boolean) :: ([.fieldLink RX6 75 "UnionListModel" "copies" "I", .methodLink RX6 71 yX6_between, .instanceMethod yX6_between, .selects RX6 yX6_between yX6_between, .initialized RX6, .code yX6_between cX6_between 4 (some .boolean)] ++ wsX60)
def wsX6_isRequest : List Cond := .code yX6_isRequest cX6_isRequest 2 (some .boolean) :: ([.fieldLink RX6 78 "UnionListModel" "requests" "I", .methodLink RX6 71 yX6_between, .instanceMethod yX6_between, .selects RX6 yX6_between yX6_between, .initialized RX6, .code yX6_between cX6_between 4 (some .boolean)] ++ wsX60)
def wsX6_way : List Cond := .code yX6_way cX6_way 3 (some .int) :: ([])
def wsX6_send : List Cond := .code yX6_send cX6_send 4 (some .int) :: ([.fieldLink RX6 52 "UnionListModel" "kind" "[I", .fieldLink RX6 81 "UnionListModel" "under" "I", .fieldLink RX6 55 "UnionListModel" "what" "[I", .fieldLink RX6 58 "UnionListModel" "day" "[I", .fieldLink RX6 84 "UnionListModel" "now" "I"] ++ wsX60)
def wsX6_owe : List Cond := .code yX6_owe cX6_owe 4 none :: ([.fieldLink RX6 61 "UnionListModel" "debt" "[I"] ++ wsX60)
def wsX6_free : List Cond := .code yX6_free cX6_free 2 (some .boolean) :: ([.fieldLink RX6 16 "UnionListModel" "place" "[I", .fieldLink RX6 7 "UnionListModel" "home" "[I", .fieldLink RX6 28 "UnionListModel" "seen" "[I"] ++ wsX60)
def wsX6_tell : List Cond := .code yX6_tell cX6_tell 3 none :: ([.fieldLink RX6 7 "UnionListModel" "home" "[I", .methodLink RX6 87 yX6_send, .instanceMethod yX6_send, .selects RX6 yX6_send yX6_send, .initialized RX6, .code yX6_send cX6_send 4 (some .int), .fieldLink RX6 52 "UnionListModel" "kind" "[I", .fieldLink RX6 81 "UnionListModel" "under" "I", .fieldLink RX6 55 "UnionListModel" "what" "[I", .fieldLink RX6 58 "UnionListModel" "day" "[I", .fieldLink RX6 84 "UnionListModel" "now" "I"] ++ wsX60)
def wsX6_addCopy_r1 : List Cond := [Cond.fieldLink RX6 75 "UnionListModel" "copies" "I", Cond.fieldLink RX6 7 "UnionListModel" "home" "[I", Cond.fieldLink RX6 13 "UnionListModel" "title" "[I", Cond.fieldLink RX6 16 "UnionListModel" "place" "[I", Cond.fieldLink RX6 19 "UnionListModel" "hands" "[I", Cond.fieldLink RX6 22 "UnionListModel" "knows" "[I", Cond.fieldLink RX6 25 "UnionListModel" "harmed" "[I", Cond.methodLink RX6 91 yX6_isHouse, Cond.instanceMethod yX6_isHouse, Cond.selects RX6 yX6_isHouse yX6_isHouse, Cond.initialized RX6, Cond.code yX6_isHouse cX6_isHouse 2 (some .boolean), Cond.methodLink RX6 71 yX6_between, Cond.instanceMethod yX6_between, Cond.selects RX6 yX6_between yX6_between, Cond.code yX6_between cX6_between 4 (some .boolean), Cond.methodLink RX6 95 yX6_holds, Cond.instanceMethod yX6_holds, Cond.selects RX6 yX6_holds yX6_holds, Cond.code yX6_holds cX6_holds 2 (some .boolean), Cond.fieldLink RX6 67 "UnionListModel" "thrown" "I", Cond.methodLink RX6 98 yX6_tell, Cond.instanceMethod yX6_tell, Cond.selects RX6 yX6_tell yX6_tell]
def wsX6_addCopy_r2 : List Cond := [Cond.code yX6_tell cX6_tell 3 none, Cond.methodLink RX6 87 yX6_send, Cond.instanceMethod yX6_send, Cond.selects RX6 yX6_send yX6_send, Cond.code yX6_send cX6_send 4 (some .int), Cond.fieldLink RX6 52 "UnionListModel" "kind" "[I", Cond.fieldLink RX6 81 "UnionListModel" "under" "I", Cond.fieldLink RX6 55 "UnionListModel" "what" "[I", Cond.fieldLink RX6 58 "UnionListModel" "day" "[I", Cond.fieldLink RX6 84 "UnionListModel" "now" "I"]
def wsX6_addCopy : List Cond := .code yX6_addCopy cX6_addCopy 3 (some .int) :: ((wsX6_addCopy_r1 ++ wsX6_addCopy_r2) ++ wsX60)
def wsX6_inHandsOf : List Cond := .code yX6_inHandsOf cX6_inHandsOf 2 (some .int) :: ([.fieldLink RX6 19 "UnionListModel" "hands" "[I", .methodLink RX6 102 yX6_isCopy, .instanceMethod yX6_isCopy, .selects RX6 yX6_isCopy yX6_isCopy, .initialized RX6, .code yX6_isCopy cX6_isCopy 2 (some .boolean), .fieldLink RX6 75 "UnionListModel" "copies" "I", .methodLink RX6 71 yX6_between, .instanceMethod yX6_between, .selects RX6 yX6_between yX6_between, .code yX6_between cX6_between 4 (some .boolean), .methodLink RX6 95 yX6_holds, .instanceMethod yX6_holds, .selects RX6 yX6_holds yX6_holds, .code yX6_holds cX6_holds 2 (some .boolean), .fieldLink RX6 67 "UnionListModel" "thrown" "I"] ++ wsX60)
def wsX6_isFree : List Cond := .code yX6_isFree cX6_isFree 2 (some .boolean) :: ([.methodLink RX6 102 yX6_isCopy, .instanceMethod yX6_isCopy, .selects RX6 yX6_isCopy yX6_isCopy, .initialized RX6, .code yX6_isCopy cX6_isCopy 2 (some .boolean), .fieldLink RX6 75 "UnionListModel" "copies" "I", .methodLink RX6 71 yX6_between, .instanceMethod yX6_between, .selects RX6 yX6_between yX6_between, .code yX6_between cX6_between 4 (some .boolean), .methodLink RX6 95 yX6_holds, .instanceMethod yX6_holds, .selects RX6 yX6_holds yX6_holds, .code yX6_holds cX6_holds 2 (some .boolean), .fieldLink RX6 67 "UnionListModel" "thrown" "I", .methodLink RX6 105 yX6_free, .instanceMethod yX6_free, .selects RX6 yX6_free yX6_free, .code yX6_free cX6_free 2 (some .boolean), .fieldLink RX6 16 "UnionListModel" "place" "[I", .fieldLink RX6 7 "UnionListModel" "home" "[I", .fieldLink RX6 28 "UnionListModel" "seen" "[I"] ++ wsX60)
def wsX6_listed : List Cond := .code yX6_listed cX6_listed 2 (some .int) :: ([.fieldLink RX6 22 "UnionListModel" "knows" "[I", .methodLink RX6 102 yX6_isCopy, .instanceMethod yX6_isCopy, .selects RX6 yX6_isCopy yX6_isCopy, .initialized RX6, .code yX6_isCopy cX6_isCopy 2 (some .boolean), .fieldLink RX6 75 "UnionListModel" "copies" "I", .methodLink RX6 71 yX6_between, .instanceMethod yX6_between, .selects RX6 yX6_between yX6_between, .code yX6_between cX6_between 4 (some .boolean), .methodLink RX6 95 yX6_holds, .instanceMethod yX6_holds, .selects RX6 yX6_holds yX6_holds, .code yX6_holds cX6_holds 2 (some .boolean), .fieldLink RX6 67 "UnionListModel" "thrown" "I"] ++ wsX60)
def wsX6_harm : List Cond := .code yX6_harm cX6_harm 2 (some .int) :: ([.fieldLink RX6 25 "UnionListModel" "harmed" "[I", .fieldLink RX6 19 "UnionListModel" "hands" "[I", .methodLink RX6 102 yX6_isCopy, .instanceMethod yX6_isCopy, .selects RX6 yX6_isCopy yX6_isCopy, .initialized RX6, .code yX6_isCopy cX6_isCopy 2 (some .boolean), .fieldLink RX6 75 "UnionListModel" "copies" "I", .methodLink RX6 71 yX6_between, .instanceMethod yX6_between, .selects RX6 yX6_between yX6_between, .code yX6_between cX6_between 4 (some .boolean), .methodLink RX6 95 yX6_holds, .instanceMethod yX6_holds, .selects RX6 yX6_holds yX6_holds, .code yX6_holds cX6_holds 2 (some .boolean), .fieldLink RX6 67 "UnionListModel" "thrown" "I"] ++ wsX60)
def wsX6_find : List Cond := .code yX6_find cX6_find 2 (some .int) :: ([.fieldLink RX6 25 "UnionListModel" "harmed" "[I", .fieldLink RX6 28 "UnionListModel" "seen" "[I", .fieldLink RX6 7 "UnionListModel" "home" "[I", .methodLink RX6 108 yX6_owe, .instanceMethod yX6_owe, .selects RX6 yX6_owe yX6_owe, .initialized RX6, .code yX6_owe cX6_owe 4 none, .fieldLink RX6 61 "UnionListModel" "debt" "[I"] ++ wsX60)
def wsX6_look_r1 : List Cond := [Cond.fieldLink RX6 16 "UnionListModel" "place" "[I", Cond.methodLink RX6 102 yX6_isCopy, Cond.instanceMethod yX6_isCopy, Cond.selects RX6 yX6_isCopy yX6_isCopy, Cond.initialized RX6, Cond.code yX6_isCopy cX6_isCopy 2 (some .boolean), Cond.fieldLink RX6 75 "UnionListModel" "copies" "I", Cond.methodLink RX6 71 yX6_between, Cond.instanceMethod yX6_between, Cond.selects RX6 yX6_between yX6_between, Cond.code yX6_between cX6_between 4 (some .boolean), Cond.methodLink RX6 95 yX6_holds, Cond.instanceMethod yX6_holds, Cond.selects RX6 yX6_holds yX6_holds, Cond.code yX6_holds cX6_holds 2 (some .boolean), Cond.fieldLink RX6 67 "UnionListModel" "thrown" "I", Cond.methodLink RX6 112 yX6_find, Cond.instanceMethod yX6_find, Cond.selects RX6 yX6_find yX6_find, Cond.code yX6_find cX6_find 2 (some .int), Cond.fieldLink RX6 25 "UnionListModel" "harmed" "[I", Cond.fieldLink RX6 28 "UnionListModel" "seen" "[I", Cond.fieldLink RX6 7 "UnionListModel" "home" "[I", Cond.methodLink RX6 108 yX6_owe]
def wsX6_look_r2 : List Cond := [Cond.instanceMethod yX6_owe, Cond.selects RX6 yX6_owe yX6_owe, Cond.code yX6_owe cX6_owe 4 none, Cond.fieldLink RX6 61 "UnionListModel" "debt" "[I"]
def wsX6_look : List Cond := .code yX6_look cX6_look 2 (some .int) :: ((wsX6_look_r1 ++ wsX6_look_r2) ++ wsX60)
def wsX6_mend_r1 : List Cond := [Cond.fieldLink RX6 16 "UnionListModel" "place" "[I", Cond.fieldLink RX6 7 "UnionListModel" "home" "[I", Cond.fieldLink RX6 28 "UnionListModel" "seen" "[I", Cond.fieldLink RX6 25 "UnionListModel" "harmed" "[I", Cond.methodLink RX6 102 yX6_isCopy, Cond.instanceMethod yX6_isCopy, Cond.selects RX6 yX6_isCopy yX6_isCopy, Cond.initialized RX6, Cond.code yX6_isCopy cX6_isCopy 2 (some .boolean), Cond.fieldLink RX6 75 "UnionListModel" "copies" "I", Cond.methodLink RX6 71 yX6_between, Cond.instanceMethod yX6_between, Cond.selects RX6 yX6_between yX6_between, Cond.code yX6_between cX6_between 4 (some .boolean), Cond.methodLink RX6 95 yX6_holds, Cond.instanceMethod yX6_holds, Cond.selects RX6 yX6_holds yX6_holds, Cond.code yX6_holds cX6_holds 2 (some .boolean), Cond.fieldLink RX6 67 "UnionListModel" "thrown" "I", Cond.methodLink RX6 98 yX6_tell, Cond.instanceMethod yX6_tell, Cond.selects RX6 yX6_tell yX6_tell, Cond.code yX6_tell cX6_tell 3 none, Cond.methodLink RX6 87 yX6_send]
def wsX6_mend_r2 : List Cond := [Cond.instanceMethod yX6_send, Cond.selects RX6 yX6_send yX6_send, Cond.code yX6_send cX6_send 4 (some .int), Cond.fieldLink RX6 52 "UnionListModel" "kind" "[I", Cond.fieldLink RX6 81 "UnionListModel" "under" "I", Cond.fieldLink RX6 55 "UnionListModel" "what" "[I", Cond.fieldLink RX6 58 "UnionListModel" "day" "[I", Cond.fieldLink RX6 84 "UnionListModel" "now" "I"]
def wsX6_mend : List Cond := .code yX6_mend cX6_mend 2 none :: ((wsX6_mend_r1 ++ wsX6_mend_r2) ++ wsX60)
def wsX6_ask : List Cond := .code yX6_ask cX6_ask 5 none :: ([.fieldLink RX6 75 "UnionListModel" "copies" "I", .fieldLink RX6 13 "UnionListModel" "title" "[I", .fieldLink RX6 34 "UnionListModel" "wanted" "[I", .fieldLink RX6 22 "UnionListModel" "knows" "[I", .fieldLink RX6 7 "UnionListModel" "home" "[I", .fieldLink RX6 31 "UnionListModel" "whose" "[I", .fieldLink RX6 46 "UnionListModel" "asked" "[I", .fieldLink RX6 40 "UnionListModel" "loaned" "[I", .fieldLink RX6 37 "UnionListModel" "stage" "[I", .methodLink RX6 116 yX6_way, .instanceMethod yX6_way, .selects RX6 yX6_way yX6_way, .initialized RX6, .code yX6_way cX6_way 3 (some .int), .methodLink RX6 87 yX6_send, .instanceMethod yX6_send, .selects RX6 yX6_send yX6_send, .code yX6_send cX6_send 4 (some .int), .fieldLink RX6 52 "UnionListModel" "kind" "[I", .fieldLink RX6 81 "UnionListModel" "under" "I", .fieldLink RX6 55 "UnionListModel" "what" "[I", .fieldLink RX6 58 "UnionListModel" "day" "[I", .fieldLink RX6 84 "UnionListModel" "now" "I"] ++ wsX60)
def wsX6_request_r1 : List Cond := [Cond.fieldLink RX6 78 "UnionListModel" "requests" "I", Cond.fieldLink RX6 31 "UnionListModel" "whose" "[I", Cond.fieldLink RX6 34 "UnionListModel" "wanted" "[I", Cond.methodLink RX6 91 yX6_isHouse, Cond.instanceMethod yX6_isHouse, Cond.selects RX6 yX6_isHouse yX6_isHouse, Cond.initialized RX6, Cond.code yX6_isHouse cX6_isHouse 2 (some .boolean), Cond.methodLink RX6 71 yX6_between, Cond.instanceMethod yX6_between, Cond.selects RX6 yX6_between yX6_between, Cond.code yX6_between cX6_between 4 (some .boolean), Cond.methodLink RX6 95 yX6_holds, Cond.instanceMethod yX6_holds, Cond.selects RX6 yX6_holds yX6_holds, Cond.code yX6_holds cX6_holds 2 (some .boolean), Cond.fieldLink RX6 67 "UnionListModel" "thrown" "I", Cond.methodLink RX6 120 yX6_ask, Cond.instanceMethod yX6_ask, Cond.selects RX6 yX6_ask yX6_ask, Cond.code yX6_ask cX6_ask 5 none, Cond.fieldLink RX6 75 "UnionListModel" "copies" "I", Cond.fieldLink RX6 13 "UnionListModel" "title" "[I", Cond.fieldLink RX6 22 "UnionListModel" "knows" "[I"]
def wsX6_request_r2 : List Cond := [Cond.fieldLink RX6 7 "UnionListModel" "home" "[I", Cond.fieldLink RX6 46 "UnionListModel" "asked" "[I", Cond.fieldLink RX6 40 "UnionListModel" "loaned" "[I", Cond.fieldLink RX6 37 "UnionListModel" "stage" "[I", Cond.methodLink RX6 116 yX6_way, Cond.instanceMethod yX6_way, Cond.selects RX6 yX6_way yX6_way, Cond.code yX6_way cX6_way 3 (some .int), Cond.methodLink RX6 87 yX6_send, Cond.instanceMethod yX6_send, Cond.selects RX6 yX6_send yX6_send, Cond.code yX6_send cX6_send 4 (some .int), Cond.fieldLink RX6 52 "UnionListModel" "kind" "[I", Cond.fieldLink RX6 81 "UnionListModel" "under" "I", Cond.fieldLink RX6 55 "UnionListModel" "what" "[I", Cond.fieldLink RX6 58 "UnionListModel" "day" "[I", Cond.fieldLink RX6 84 "UnionListModel" "now" "I"]
def wsX6_request : List Cond := .code yX6_request cX6_request 3 (some .int) :: ((wsX6_request_r1 ++ wsX6_request_r2) ++ wsX60)
def wsX6_state : List Cond := .code yX6_state cX6_state 2 (some .int) :: ([.fieldLink RX6 37 "UnionListModel" "stage" "[I", .methodLink RX6 124 yX6_isRequest, .instanceMethod yX6_isRequest, .selects RX6 yX6_isRequest yX6_isRequest, .initialized RX6, .code yX6_isRequest cX6_isRequest 2 (some .boolean), .fieldLink RX6 78 "UnionListModel" "requests" "I", .methodLink RX6 71 yX6_between, .instanceMethod yX6_between, .selects RX6 yX6_between yX6_between, .code yX6_between cX6_between 4 (some .boolean), .methodLink RX6 95 yX6_holds, .instanceMethod yX6_holds, .selects RX6 yX6_holds yX6_holds, .code yX6_holds cX6_holds 2 (some .boolean), .fieldLink RX6 67 "UnionListModel" "thrown" "I"] ++ wsX60)
def wsX6_copyOf : List Cond := .code yX6_copyOf cX6_copyOf 2 (some .int) :: ([.fieldLink RX6 40 "UnionListModel" "loaned" "[I", .methodLink RX6 124 yX6_isRequest, .instanceMethod yX6_isRequest, .selects RX6 yX6_isRequest yX6_isRequest, .initialized RX6, .code yX6_isRequest cX6_isRequest 2 (some .boolean), .fieldLink RX6 78 "UnionListModel" "requests" "I", .methodLink RX6 71 yX6_between, .instanceMethod yX6_between, .selects RX6 yX6_between yX6_between, .code yX6_between cX6_between 4 (some .boolean), .methodLink RX6 95 yX6_holds, .instanceMethod yX6_holds, .selects RX6 yX6_holds yX6_holds, .code yX6_holds cX6_holds 2 (some .boolean), .fieldLink RX6 67 "UnionListModel" "thrown" "I"] ++ wsX60)
def wsX6_refuses : List Cond := .code yX6_refuses cX6_refuses 2 (some .int) :: ([.fieldLink RX6 37 "UnionListModel" "stage" "[I", .methodLink RX6 124 yX6_isRequest, .instanceMethod yX6_isRequest, .selects RX6 yX6_isRequest yX6_isRequest, .initialized RX6, .code yX6_isRequest cX6_isRequest 2 (some .boolean), .fieldLink RX6 78 "UnionListModel" "requests" "I", .methodLink RX6 71 yX6_between, .instanceMethod yX6_between, .selects RX6 yX6_between yX6_between, .code yX6_between cX6_between 4 (some .boolean)] ++ wsX60)
def wsX6_due : List Cond := .code yX6_due cX6_due 2 (some .int) :: ([.fieldLink RX6 43 "UnionListModel" "until" "[I", .methodLink RX6 127 yX6_refuses, .instanceMethod yX6_refuses, .selects RX6 yX6_refuses yX6_refuses, .initialized RX6, .code yX6_refuses cX6_refuses 2 (some .int), .fieldLink RX6 37 "UnionListModel" "stage" "[I", .methodLink RX6 124 yX6_isRequest, .instanceMethod yX6_isRequest, .selects RX6 yX6_isRequest yX6_isRequest, .code yX6_isRequest cX6_isRequest 2 (some .boolean), .fieldLink RX6 78 "UnionListModel" "requests" "I", .methodLink RX6 71 yX6_between, .instanceMethod yX6_between, .selects RX6 yX6_between yX6_between, .code yX6_between cX6_between 4 (some .boolean), .methodLink RX6 95 yX6_holds, .instanceMethod yX6_holds, .selects RX6 yX6_holds yX6_holds, .code yX6_holds cX6_holds 2 (some .boolean), .fieldLink RX6 67 "UnionListModel" "thrown" "I"] ++ wsX60)
def wsX6_length : List Cond := .code yX6_length cX6_length 2 (some .int) :: ([.fieldLink RX6 31 "UnionListModel" "whose" "[I", .fieldLink RX6 7 "UnionListModel" "home" "[I", .fieldLink RX6 40 "UnionListModel" "loaned" "[I", .methodLink RX6 116 yX6_way, .instanceMethod yX6_way, .selects RX6 yX6_way yX6_way, .initialized RX6, .code yX6_way cX6_way 3 (some .int)] ++ wsX60)
def wsX6_renew_r1 : List Cond := [Cond.methodLink RX6 127 yX6_refuses, Cond.instanceMethod yX6_refuses, Cond.selects RX6 yX6_refuses yX6_refuses, Cond.initialized RX6, Cond.code yX6_refuses cX6_refuses 2 (some .int), Cond.fieldLink RX6 37 "UnionListModel" "stage" "[I", Cond.methodLink RX6 124 yX6_isRequest, Cond.instanceMethod yX6_isRequest, Cond.selects RX6 yX6_isRequest yX6_isRequest, Cond.code yX6_isRequest cX6_isRequest 2 (some .boolean), Cond.fieldLink RX6 78 "UnionListModel" "requests" "I", Cond.methodLink RX6 71 yX6_between, Cond.instanceMethod yX6_between, Cond.selects RX6 yX6_between yX6_between, Cond.code yX6_between cX6_between 4 (some .boolean), Cond.methodLink RX6 95 yX6_holds, Cond.instanceMethod yX6_holds, Cond.selects RX6 yX6_holds yX6_holds, Cond.code yX6_holds cX6_holds 2 (some .boolean), Cond.fieldLink RX6 67 "UnionListModel" "thrown" "I", Cond.methodLink RX6 130 yX6_length, Cond.instanceMethod yX6_length, Cond.selects RX6 yX6_length yX6_length, Cond.code yX6_length cX6_length 2 (some .int)]
def wsX6_renew_r2 : List Cond := [Cond.fieldLink RX6 31 "UnionListModel" "whose" "[I", Cond.fieldLink RX6 7 "UnionListModel" "home" "[I", Cond.fieldLink RX6 40 "UnionListModel" "loaned" "[I", Cond.methodLink RX6 116 yX6_way, Cond.instanceMethod yX6_way, Cond.selects RX6 yX6_way yX6_way, Cond.code yX6_way cX6_way 3 (some .int), Cond.methodLink RX6 87 yX6_send, Cond.instanceMethod yX6_send, Cond.selects RX6 yX6_send yX6_send, Cond.code yX6_send cX6_send 4 (some .int), Cond.fieldLink RX6 52 "UnionListModel" "kind" "[I", Cond.fieldLink RX6 81 "UnionListModel" "under" "I", Cond.fieldLink RX6 55 "UnionListModel" "what" "[I", Cond.fieldLink RX6 58 "UnionListModel" "day" "[I", Cond.fieldLink RX6 84 "UnionListModel" "now" "I"]
def wsX6_renew : List Cond := .code yX6_renew cX6_renew 2 (some .int) :: ((wsX6_renew_r1 ++ wsX6_renew_r2) ++ wsX60)
def wsX6_recall_r1 : List Cond := [Cond.fieldLink RX6 49 "UnionListModel" "called" "[I", Cond.methodLink RX6 127 yX6_refuses, Cond.instanceMethod yX6_refuses, Cond.selects RX6 yX6_refuses yX6_refuses, Cond.initialized RX6, Cond.code yX6_refuses cX6_refuses 2 (some .int), Cond.fieldLink RX6 37 "UnionListModel" "stage" "[I", Cond.methodLink RX6 124 yX6_isRequest, Cond.instanceMethod yX6_isRequest, Cond.selects RX6 yX6_isRequest yX6_isRequest, Cond.code yX6_isRequest cX6_isRequest 2 (some .boolean), Cond.fieldLink RX6 78 "UnionListModel" "requests" "I", Cond.methodLink RX6 71 yX6_between, Cond.instanceMethod yX6_between, Cond.selects RX6 yX6_between yX6_between, Cond.code yX6_between cX6_between 4 (some .boolean), Cond.methodLink RX6 95 yX6_holds, Cond.instanceMethod yX6_holds, Cond.selects RX6 yX6_holds yX6_holds, Cond.code yX6_holds cX6_holds 2 (some .boolean), Cond.fieldLink RX6 67 "UnionListModel" "thrown" "I", Cond.methodLink RX6 130 yX6_length, Cond.instanceMethod yX6_length, Cond.selects RX6 yX6_length yX6_length]
def wsX6_recall_r2 : List Cond := [Cond.code yX6_length cX6_length 2 (some .int), Cond.fieldLink RX6 31 "UnionListModel" "whose" "[I", Cond.fieldLink RX6 7 "UnionListModel" "home" "[I", Cond.fieldLink RX6 40 "UnionListModel" "loaned" "[I", Cond.methodLink RX6 116 yX6_way, Cond.instanceMethod yX6_way, Cond.selects RX6 yX6_way yX6_way, Cond.code yX6_way cX6_way 3 (some .int), Cond.methodLink RX6 87 yX6_send, Cond.instanceMethod yX6_send, Cond.selects RX6 yX6_send yX6_send, Cond.code yX6_send cX6_send 4 (some .int), Cond.fieldLink RX6 52 "UnionListModel" "kind" "[I", Cond.fieldLink RX6 81 "UnionListModel" "under" "I", Cond.fieldLink RX6 55 "UnionListModel" "what" "[I", Cond.fieldLink RX6 58 "UnionListModel" "day" "[I", Cond.fieldLink RX6 84 "UnionListModel" "now" "I"]
def wsX6_recall : List Cond := .code yX6_recall cX6_recall 2 (some .int) :: ((wsX6_recall_r1 ++ wsX6_recall_r2) ++ wsX60)
def wsX6_sendBack_r1 : List Cond := [Cond.fieldLink RX6 84 "UnionListModel" "now" "I", Cond.fieldLink RX6 43 "UnionListModel" "until" "[I", Cond.fieldLink RX6 40 "UnionListModel" "loaned" "[I", Cond.fieldLink RX6 31 "UnionListModel" "whose" "[I", Cond.fieldLink RX6 7 "UnionListModel" "home" "[I", Cond.fieldLink RX6 37 "UnionListModel" "stage" "[I", Cond.fieldLink RX6 16 "UnionListModel" "place" "[I", Cond.methodLink RX6 127 yX6_refuses, Cond.instanceMethod yX6_refuses, Cond.selects RX6 yX6_refuses yX6_refuses, Cond.initialized RX6, Cond.code yX6_refuses cX6_refuses 2 (some .int), Cond.methodLink RX6 124 yX6_isRequest, Cond.instanceMethod yX6_isRequest, Cond.selects RX6 yX6_isRequest yX6_isRequest, Cond.code yX6_isRequest cX6_isRequest 2 (some .boolean), Cond.fieldLink RX6 78 "UnionListModel" "requests" "I", Cond.methodLink RX6 71 yX6_between, Cond.instanceMethod yX6_between, Cond.selects RX6 yX6_between yX6_between, Cond.code yX6_between cX6_between 4 (some .boolean), Cond.methodLink RX6 95 yX6_holds, Cond.instanceMethod yX6_holds, Cond.selects RX6 yX6_holds yX6_holds]
def wsX6_sendBack_r2 : List Cond := [Cond.code yX6_holds cX6_holds 2 (some .boolean), Cond.fieldLink RX6 67 "UnionListModel" "thrown" "I", Cond.methodLink RX6 108 yX6_owe, Cond.instanceMethod yX6_owe, Cond.selects RX6 yX6_owe yX6_owe, Cond.code yX6_owe cX6_owe 4 none, Cond.fieldLink RX6 61 "UnionListModel" "debt" "[I", Cond.methodLink RX6 130 yX6_length, Cond.instanceMethod yX6_length, Cond.selects RX6 yX6_length yX6_length, Cond.code yX6_length cX6_length 2 (some .int), Cond.methodLink RX6 116 yX6_way, Cond.instanceMethod yX6_way, Cond.selects RX6 yX6_way yX6_way, Cond.code yX6_way cX6_way 3 (some .int), Cond.methodLink RX6 87 yX6_send, Cond.instanceMethod yX6_send, Cond.selects RX6 yX6_send yX6_send, Cond.code yX6_send cX6_send 4 (some .int), Cond.fieldLink RX6 52 "UnionListModel" "kind" "[I", Cond.fieldLink RX6 81 "UnionListModel" "under" "I", Cond.fieldLink RX6 55 "UnionListModel" "what" "[I", Cond.fieldLink RX6 58 "UnionListModel" "day" "[I"]
def wsX6_sendBack : List Cond := .code yX6_sendBack cX6_sendBack 4 (some .int) :: ((wsX6_sendBack_r1 ++ wsX6_sendBack_r2) ++ wsX60)
def wsX6_homes : List Cond := .code yX6_homes cX6_homes 4 (some .int) :: ([.fieldLink RX6 75 "UnionListModel" "copies" "I", .fieldLink RX6 7 "UnionListModel" "home" "[I"] ++ wsX60)
def wsX6_answer_r1 : List Cond := [Cond.fieldLink RX6 40 "UnionListModel" "loaned" "[I", Cond.fieldLink RX6 16 "UnionListModel" "place" "[I", Cond.fieldLink RX6 37 "UnionListModel" "stage" "[I", Cond.methodLink RX6 105 yX6_free, Cond.instanceMethod yX6_free, Cond.selects RX6 yX6_free yX6_free, Cond.initialized RX6, Cond.code yX6_free cX6_free 2 (some .boolean), Cond.fieldLink RX6 7 "UnionListModel" "home" "[I", Cond.fieldLink RX6 28 "UnionListModel" "seen" "[I", Cond.methodLink RX6 120 yX6_ask, Cond.instanceMethod yX6_ask, Cond.selects RX6 yX6_ask yX6_ask, Cond.code yX6_ask cX6_ask 5 none, Cond.fieldLink RX6 75 "UnionListModel" "copies" "I", Cond.fieldLink RX6 13 "UnionListModel" "title" "[I", Cond.fieldLink RX6 34 "UnionListModel" "wanted" "[I", Cond.fieldLink RX6 22 "UnionListModel" "knows" "[I", Cond.fieldLink RX6 31 "UnionListModel" "whose" "[I", Cond.fieldLink RX6 46 "UnionListModel" "asked" "[I", Cond.methodLink RX6 116 yX6_way, Cond.instanceMethod yX6_way, Cond.selects RX6 yX6_way yX6_way, Cond.code yX6_way cX6_way 3 (some .int)]
def wsX6_answer_r2 : List Cond := [Cond.methodLink RX6 87 yX6_send, Cond.instanceMethod yX6_send, Cond.selects RX6 yX6_send yX6_send, Cond.code yX6_send cX6_send 4 (some .int), Cond.fieldLink RX6 52 "UnionListModel" "kind" "[I", Cond.fieldLink RX6 81 "UnionListModel" "under" "I", Cond.fieldLink RX6 55 "UnionListModel" "what" "[I", Cond.fieldLink RX6 58 "UnionListModel" "day" "[I", Cond.fieldLink RX6 84 "UnionListModel" "now" "I", Cond.methodLink RX6 130 yX6_length, Cond.instanceMethod yX6_length, Cond.selects RX6 yX6_length yX6_length, Cond.code yX6_length cX6_length 2 (some .int), Cond.methodLink RX6 98 yX6_tell, Cond.instanceMethod yX6_tell, Cond.selects RX6 yX6_tell yX6_tell, Cond.code yX6_tell cX6_tell 3 none]
def wsX6_answer : List Cond := .code yX6_answer cX6_answer 3 none :: ((wsX6_answer_r1 ++ wsX6_answer_r2) ++ wsX60)
def wsX6_come_r1 : List Cond := [Cond.fieldLink RX6 40 "UnionListModel" "loaned" "[I", Cond.fieldLink RX6 31 "UnionListModel" "whose" "[I", Cond.fieldLink RX6 37 "UnionListModel" "stage" "[I", Cond.fieldLink RX6 64 "UnionListModel" "spared" "[I", Cond.fieldLink RX6 7 "UnionListModel" "home" "[I", Cond.fieldLink RX6 16 "UnionListModel" "place" "[I", Cond.fieldLink RX6 19 "UnionListModel" "hands" "[I", Cond.fieldLink RX6 43 "UnionListModel" "until" "[I", Cond.fieldLink RX6 84 "UnionListModel" "now" "I", Cond.methodLink RX6 133 yX6_homes, Cond.instanceMethod yX6_homes, Cond.selects RX6 yX6_homes yX6_homes, Cond.initialized RX6, Cond.code yX6_homes cX6_homes 4 (some .int), Cond.fieldLink RX6 75 "UnionListModel" "copies" "I", Cond.methodLink RX6 108 yX6_owe, Cond.instanceMethod yX6_owe, Cond.selects RX6 yX6_owe yX6_owe, Cond.code yX6_owe cX6_owe 4 none, Cond.fieldLink RX6 61 "UnionListModel" "debt" "[I", Cond.methodLink RX6 112 yX6_find, Cond.instanceMethod yX6_find, Cond.selects RX6 yX6_find yX6_find, Cond.code yX6_find cX6_find 2 (some .int)]
def wsX6_come_r2 : List Cond := [Cond.fieldLink RX6 25 "UnionListModel" "harmed" "[I", Cond.fieldLink RX6 28 "UnionListModel" "seen" "[I", Cond.methodLink RX6 105 yX6_free, Cond.instanceMethod yX6_free, Cond.selects RX6 yX6_free yX6_free, Cond.code yX6_free cX6_free 2 (some .boolean), Cond.methodLink RX6 98 yX6_tell, Cond.instanceMethod yX6_tell, Cond.selects RX6 yX6_tell yX6_tell, Cond.code yX6_tell cX6_tell 3 none, Cond.methodLink RX6 87 yX6_send, Cond.instanceMethod yX6_send, Cond.selects RX6 yX6_send yX6_send, Cond.code yX6_send cX6_send 4 (some .int), Cond.fieldLink RX6 52 "UnionListModel" "kind" "[I", Cond.fieldLink RX6 81 "UnionListModel" "under" "I", Cond.fieldLink RX6 55 "UnionListModel" "what" "[I", Cond.fieldLink RX6 58 "UnionListModel" "day" "[I"]
def wsX6_come : List Cond := .code yX6_come cX6_come 5 none :: ((wsX6_come_r1 ++ wsX6_come_r2) ++ wsX60)
def wsX6_arrive_r1 : List Cond := [Cond.fieldLink RX6 22 "UnionListModel" "knows" "[I", Cond.fieldLink RX6 43 "UnionListModel" "until" "[I", Cond.fieldLink RX6 37 "UnionListModel" "stage" "[I", Cond.fieldLink RX6 49 "UnionListModel" "called" "[I", Cond.fieldLink RX6 84 "UnionListModel" "now" "I", Cond.methodLink RX6 136 yX6_answer, Cond.instanceMethod yX6_answer, Cond.selects RX6 yX6_answer yX6_answer, Cond.initialized RX6, Cond.code yX6_answer cX6_answer 3 none, Cond.fieldLink RX6 40 "UnionListModel" "loaned" "[I", Cond.fieldLink RX6 16 "UnionListModel" "place" "[I", Cond.methodLink RX6 105 yX6_free, Cond.instanceMethod yX6_free, Cond.selects RX6 yX6_free yX6_free, Cond.code yX6_free cX6_free 2 (some .boolean), Cond.fieldLink RX6 7 "UnionListModel" "home" "[I", Cond.fieldLink RX6 28 "UnionListModel" "seen" "[I", Cond.methodLink RX6 120 yX6_ask, Cond.instanceMethod yX6_ask, Cond.selects RX6 yX6_ask yX6_ask, Cond.code yX6_ask cX6_ask 5 none, Cond.fieldLink RX6 75 "UnionListModel" "copies" "I", Cond.fieldLink RX6 13 "UnionListModel" "title" "[I"]
def wsX6_arrive_r2 : List Cond := [Cond.fieldLink RX6 34 "UnionListModel" "wanted" "[I", Cond.fieldLink RX6 31 "UnionListModel" "whose" "[I", Cond.fieldLink RX6 46 "UnionListModel" "asked" "[I", Cond.methodLink RX6 116 yX6_way, Cond.instanceMethod yX6_way, Cond.selects RX6 yX6_way yX6_way, Cond.code yX6_way cX6_way 3 (some .int), Cond.methodLink RX6 87 yX6_send, Cond.instanceMethod yX6_send, Cond.selects RX6 yX6_send yX6_send, Cond.code yX6_send cX6_send 4 (some .int), Cond.fieldLink RX6 52 "UnionListModel" "kind" "[I", Cond.fieldLink RX6 81 "UnionListModel" "under" "I", Cond.fieldLink RX6 55 "UnionListModel" "what" "[I", Cond.fieldLink RX6 58 "UnionListModel" "day" "[I", Cond.methodLink RX6 130 yX6_length, Cond.instanceMethod yX6_length, Cond.selects RX6 yX6_length yX6_length, Cond.code yX6_length cX6_length 2 (some .int), Cond.methodLink RX6 98 yX6_tell, Cond.instanceMethod yX6_tell, Cond.selects RX6 yX6_tell yX6_tell, Cond.code yX6_tell cX6_tell 3 none, Cond.methodLink RX6 139 yX6_come]
def wsX6_arrive_r3 : List Cond := [Cond.instanceMethod yX6_come, Cond.selects RX6 yX6_come yX6_come, Cond.code yX6_come cX6_come 5 none, Cond.fieldLink RX6 64 "UnionListModel" "spared" "[I", Cond.fieldLink RX6 19 "UnionListModel" "hands" "[I", Cond.methodLink RX6 133 yX6_homes, Cond.instanceMethod yX6_homes, Cond.selects RX6 yX6_homes yX6_homes, Cond.code yX6_homes cX6_homes 4 (some .int), Cond.methodLink RX6 108 yX6_owe, Cond.instanceMethod yX6_owe, Cond.selects RX6 yX6_owe yX6_owe, Cond.code yX6_owe cX6_owe 4 none, Cond.fieldLink RX6 61 "UnionListModel" "debt" "[I", Cond.methodLink RX6 112 yX6_find, Cond.instanceMethod yX6_find, Cond.selects RX6 yX6_find yX6_find, Cond.code yX6_find cX6_find 2 (some .int), Cond.fieldLink RX6 25 "UnionListModel" "harmed" "[I"]
def wsX6_arrive : List Cond := .code yX6_arrive cX6_arrive 3 none :: ((wsX6_arrive_r1 ++ (wsX6_arrive_r2 ++ wsX6_arrive_r3)) ++ wsX60)
def wsX6_arriveAll_r1 : List Cond := [Cond.fieldLink RX6 81 "UnionListModel" "under" "I", Cond.fieldLink RX6 58 "UnionListModel" "day" "[I", Cond.fieldLink RX6 84 "UnionListModel" "now" "I", Cond.fieldLink RX6 52 "UnionListModel" "kind" "[I", Cond.fieldLink RX6 55 "UnionListModel" "what" "[I", Cond.methodLink RX6 142 yX6_arrive, Cond.instanceMethod yX6_arrive, Cond.selects RX6 yX6_arrive yX6_arrive, Cond.initialized RX6, Cond.code yX6_arrive cX6_arrive 3 none, Cond.fieldLink RX6 22 "UnionListModel" "knows" "[I", Cond.fieldLink RX6 43 "UnionListModel" "until" "[I", Cond.fieldLink RX6 37 "UnionListModel" "stage" "[I", Cond.fieldLink RX6 49 "UnionListModel" "called" "[I", Cond.methodLink RX6 136 yX6_answer, Cond.instanceMethod yX6_answer, Cond.selects RX6 yX6_answer yX6_answer, Cond.code yX6_answer cX6_answer 3 none, Cond.fieldLink RX6 40 "UnionListModel" "loaned" "[I", Cond.fieldLink RX6 16 "UnionListModel" "place" "[I", Cond.methodLink RX6 105 yX6_free, Cond.instanceMethod yX6_free, Cond.selects RX6 yX6_free yX6_free, Cond.code yX6_free cX6_free 2 (some .boolean)]
def wsX6_arriveAll_r2 : List Cond := [Cond.fieldLink RX6 7 "UnionListModel" "home" "[I", Cond.fieldLink RX6 28 "UnionListModel" "seen" "[I", Cond.methodLink RX6 120 yX6_ask, Cond.instanceMethod yX6_ask, Cond.selects RX6 yX6_ask yX6_ask, Cond.code yX6_ask cX6_ask 5 none, Cond.fieldLink RX6 75 "UnionListModel" "copies" "I", Cond.fieldLink RX6 13 "UnionListModel" "title" "[I", Cond.fieldLink RX6 34 "UnionListModel" "wanted" "[I", Cond.fieldLink RX6 31 "UnionListModel" "whose" "[I", Cond.fieldLink RX6 46 "UnionListModel" "asked" "[I", Cond.methodLink RX6 116 yX6_way, Cond.instanceMethod yX6_way, Cond.selects RX6 yX6_way yX6_way, Cond.code yX6_way cX6_way 3 (some .int), Cond.methodLink RX6 87 yX6_send, Cond.instanceMethod yX6_send, Cond.selects RX6 yX6_send yX6_send, Cond.code yX6_send cX6_send 4 (some .int), Cond.methodLink RX6 130 yX6_length, Cond.instanceMethod yX6_length, Cond.selects RX6 yX6_length yX6_length, Cond.code yX6_length cX6_length 2 (some .int), Cond.methodLink RX6 98 yX6_tell]
def wsX6_arriveAll_r3 : List Cond := [Cond.instanceMethod yX6_tell, Cond.selects RX6 yX6_tell yX6_tell, Cond.code yX6_tell cX6_tell 3 none, Cond.methodLink RX6 139 yX6_come, Cond.instanceMethod yX6_come, Cond.selects RX6 yX6_come yX6_come, Cond.code yX6_come cX6_come 5 none, Cond.fieldLink RX6 64 "UnionListModel" "spared" "[I", Cond.fieldLink RX6 19 "UnionListModel" "hands" "[I", Cond.methodLink RX6 133 yX6_homes, Cond.instanceMethod yX6_homes, Cond.selects RX6 yX6_homes yX6_homes, Cond.code yX6_homes cX6_homes 4 (some .int), Cond.methodLink RX6 108 yX6_owe, Cond.instanceMethod yX6_owe, Cond.selects RX6 yX6_owe yX6_owe, Cond.code yX6_owe cX6_owe 4 none, Cond.fieldLink RX6 61 "UnionListModel" "debt" "[I", Cond.methodLink RX6 112 yX6_find, Cond.instanceMethod yX6_find, Cond.selects RX6 yX6_find yX6_find, Cond.code yX6_find cX6_find 2 (some .int), Cond.fieldLink RX6 25 "UnionListModel" "harmed" "[I"]
def wsX6_arriveAll : List Cond := .code yX6_arriveAll cX6_arriveAll 5 (some .int) :: ((wsX6_arriveAll_r1 ++ (wsX6_arriveAll_r2 ++ wsX6_arriveAll_r3)) ++ wsX60)
def wsX6_pass_r1 : List Cond := [Cond.fieldLink RX6 84 "UnionListModel" "now" "I", Cond.fieldLink RX6 64 "UnionListModel" "spared" "[I", Cond.methodLink RX6 71 yX6_between, Cond.instanceMethod yX6_between, Cond.selects RX6 yX6_between yX6_between, Cond.initialized RX6, Cond.code yX6_between cX6_between 4 (some .boolean), Cond.methodLink RX6 95 yX6_holds, Cond.instanceMethod yX6_holds, Cond.selects RX6 yX6_holds yX6_holds, Cond.code yX6_holds cX6_holds 2 (some .boolean), Cond.fieldLink RX6 67 "UnionListModel" "thrown" "I", Cond.methodLink RX6 145 yX6_arriveAll, Cond.instanceMethod yX6_arriveAll, Cond.selects RX6 yX6_arriveAll yX6_arriveAll, Cond.code yX6_arriveAll cX6_arriveAll 5 (some .int), Cond.fieldLink RX6 81 "UnionListModel" "under" "I", Cond.fieldLink RX6 58 "UnionListModel" "day" "[I", Cond.fieldLink RX6 52 "UnionListModel" "kind" "[I", Cond.fieldLink RX6 55 "UnionListModel" "what" "[I", Cond.methodLink RX6 142 yX6_arrive, Cond.instanceMethod yX6_arrive, Cond.selects RX6 yX6_arrive yX6_arrive, Cond.code yX6_arrive cX6_arrive 3 none]
def wsX6_pass_r2 : List Cond := [Cond.fieldLink RX6 22 "UnionListModel" "knows" "[I", Cond.fieldLink RX6 43 "UnionListModel" "until" "[I", Cond.fieldLink RX6 37 "UnionListModel" "stage" "[I", Cond.fieldLink RX6 49 "UnionListModel" "called" "[I", Cond.methodLink RX6 136 yX6_answer, Cond.instanceMethod yX6_answer, Cond.selects RX6 yX6_answer yX6_answer, Cond.code yX6_answer cX6_answer 3 none, Cond.fieldLink RX6 40 "UnionListModel" "loaned" "[I", Cond.fieldLink RX6 16 "UnionListModel" "place" "[I", Cond.methodLink RX6 105 yX6_free, Cond.instanceMethod yX6_free, Cond.selects RX6 yX6_free yX6_free, Cond.code yX6_free cX6_free 2 (some .boolean), Cond.fieldLink RX6 7 "UnionListModel" "home" "[I", Cond.fieldLink RX6 28 "UnionListModel" "seen" "[I", Cond.methodLink RX6 120 yX6_ask, Cond.instanceMethod yX6_ask, Cond.selects RX6 yX6_ask yX6_ask, Cond.code yX6_ask cX6_ask 5 none, Cond.fieldLink RX6 75 "UnionListModel" "copies" "I", Cond.fieldLink RX6 13 "UnionListModel" "title" "[I", Cond.fieldLink RX6 34 "UnionListModel" "wanted" "[I", Cond.fieldLink RX6 31 "UnionListModel" "whose" "[I"]
def wsX6_pass_r3 : List Cond := [Cond.fieldLink RX6 46 "UnionListModel" "asked" "[I", Cond.methodLink RX6 116 yX6_way, Cond.instanceMethod yX6_way, Cond.selects RX6 yX6_way yX6_way, Cond.code yX6_way cX6_way 3 (some .int), Cond.methodLink RX6 87 yX6_send, Cond.instanceMethod yX6_send, Cond.selects RX6 yX6_send yX6_send, Cond.code yX6_send cX6_send 4 (some .int), Cond.methodLink RX6 130 yX6_length, Cond.instanceMethod yX6_length, Cond.selects RX6 yX6_length yX6_length, Cond.code yX6_length cX6_length 2 (some .int), Cond.methodLink RX6 98 yX6_tell, Cond.instanceMethod yX6_tell, Cond.selects RX6 yX6_tell yX6_tell, Cond.code yX6_tell cX6_tell 3 none, Cond.methodLink RX6 139 yX6_come, Cond.instanceMethod yX6_come, Cond.selects RX6 yX6_come yX6_come, Cond.code yX6_come cX6_come 5 none, Cond.fieldLink RX6 19 "UnionListModel" "hands" "[I", Cond.methodLink RX6 133 yX6_homes, Cond.instanceMethod yX6_homes]
def wsX6_pass_r4 : List Cond := [Cond.selects RX6 yX6_homes yX6_homes, Cond.code yX6_homes cX6_homes 4 (some .int), Cond.methodLink RX6 108 yX6_owe, Cond.instanceMethod yX6_owe, Cond.selects RX6 yX6_owe yX6_owe, Cond.code yX6_owe cX6_owe 4 none, Cond.fieldLink RX6 61 "UnionListModel" "debt" "[I", Cond.methodLink RX6 112 yX6_find, Cond.instanceMethod yX6_find, Cond.selects RX6 yX6_find yX6_find, Cond.code yX6_find cX6_find 2 (some .int), Cond.fieldLink RX6 25 "UnionListModel" "harmed" "[I"]
def wsX6_pass : List Cond := .code yX6_pass cX6_pass 5 (some .int) :: ((wsX6_pass_r1 ++ (wsX6_pass_r2 ++ (wsX6_pass_r3 ++ wsX6_pass_r4))) ++ wsX60)
def wsX6_today : List Cond := .code yX6_today cX6_today 1 (some .int) :: ([.fieldLink RX6 84 "UnionListModel" "now" "I", .methodLink RX6 149 yX6_plain, .instanceMethod yX6_plain, .selects RX6 yX6_plain yX6_plain, .initialized RX6, .code yX6_plain cX6_plain 2 (some .int), .fieldLink RX6 67 "UnionListModel" "thrown" "I"] ++ wsX60)
def wsX6_owes : List Cond := .code yX6_owes cX6_owes 3 (some .int) :: ([.fieldLink RX6 61 "UnionListModel" "debt" "[I", .methodLink RX6 91 yX6_isHouse, .instanceMethod yX6_isHouse, .selects RX6 yX6_isHouse yX6_isHouse, .initialized RX6, .code yX6_isHouse cX6_isHouse 2 (some .boolean), .methodLink RX6 71 yX6_between, .instanceMethod yX6_between, .selects RX6 yX6_between yX6_between, .code yX6_between cX6_between 4 (some .boolean), .methodLink RX6 95 yX6_holds, .instanceMethod yX6_holds, .selects RX6 yX6_holds yX6_holds, .code yX6_holds cX6_holds 2 (some .boolean), .fieldLink RX6 67 "UnionListModel" "thrown" "I"] ++ wsX60)
def wsX6_settle : List Cond := .code yX6_settle cX6_settle 3 (some .int) :: ([.fieldLink RX6 61 "UnionListModel" "debt" "[I", .methodLink RX6 149 yX6_plain, .instanceMethod yX6_plain, .selects RX6 yX6_plain yX6_plain, .initialized RX6, .code yX6_plain cX6_plain 2 (some .int), .fieldLink RX6 67 "UnionListModel" "thrown" "I"] ++ wsX60)
def wsX6_quota : List Cond := .code yX6_quota cX6_quota 2 (some .int) :: ([.fieldLink RX6 64 "UnionListModel" "spared" "[I", .methodLink RX6 91 yX6_isHouse, .instanceMethod yX6_isHouse, .selects RX6 yX6_isHouse yX6_isHouse, .initialized RX6, .code yX6_isHouse cX6_isHouse 2 (some .boolean), .methodLink RX6 71 yX6_between, .instanceMethod yX6_between, .selects RX6 yX6_between yX6_between, .code yX6_between cX6_between 4 (some .boolean), .methodLink RX6 95 yX6_holds, .instanceMethod yX6_holds, .selects RX6 yX6_holds yX6_holds, .code yX6_holds cX6_holds 2 (some .boolean), .fieldLink RX6 67 "UnionListModel" "thrown" "I"] ++ wsX60)
def wsJ9_abs_0f7a4 : List Cond := .code yJ9_abs_0f7a4 cJ9_abs_0f7a4 1 (some .int) :: ([])
def wsJ9_max_7cf53 : List Cond := .code yJ9_max_7cf53 cJ9_max_7cf53 2 (some .int) :: ([])
def wsJ9_min_7cf53 : List Cond := .code yJ9_min_7cf53 cJ9_min_7cf53 2 (some .int) :: ([])
def wsL_addCopy_r1 : List Cond := [Cond.classLink RL 13 "java/lang/IllegalArgumentException", Cond.classLink RL 15 "java/lang/IllegalStateException", Cond.methodLink RL 7 yX5_addCopy, Cond.instanceMethod yX5_addCopy, Cond.selects RX5 yX5_addCopy yX5_addCopy, Cond.initialized RX5, Cond.code yX5_addCopy cX5_addCopy 5 (some .int), Cond.classLink RX5 54 "java/lang/IllegalArgumentException", Cond.initialized "java/lang/IllegalArgumentException", Cond.classLink RX5 61 "java/lang/IllegalStateException", Cond.initialized "java/lang/IllegalStateException", Cond.fieldLink RX5 37 "UnionList" "copyCount" "I", Cond.fieldLink RX5 11 "UnionList" "copies" "[LUnionList$Copy;", Cond.classLink RX5 9 RX1, Cond.instantiable RX1 8, Cond.initialized RX1, Cond.fieldLink RX5 33 "UnionList" "accounts" "LUnionList$Accounts;", Cond.methodLink RX5 47 yX5_isHouse, Cond.static yX5_isHouse, Cond.code yX5_isHouse cX5_isHouse 1 (some .boolean), Cond.methodLink RX5 51 yX5_isTitle, Cond.static yX5_isTitle, Cond.code yX5_isTitle cX5_isTitle 1 (some .boolean), Cond.methodLink RX5 66 yX1_init]
def wsL_addCopy_r2 : List Cond := [Cond.instanceMethod yX1_init, Cond.code yX1_init cX1_init 4 none, Cond.methodLink RX1 3 objectInit, Cond.instanceMethod objectInit, Cond.code objectInit ⟨#[0xb1]⟩ 1 none, Cond.fieldLink RX1 9 "UnionList$Copy" "number" "I", Cond.fieldLink RX1 15 "UnionList$Copy" "home" "I", Cond.fieldLink RX1 18 "UnionList$Copy" "title" "I", Cond.fieldLink RX1 21 "UnionList$Copy" "holder" "I", Cond.fieldLink RX1 24 "UnionList$Copy" "onItsWay" "Z", Cond.fieldLink RX1 28 "UnionList$Copy" "knownToList" "I", Cond.fieldLink RX1 31 "UnionList$Copy" "harmedBy" "I", Cond.fieldLink RX1 34 "UnionList$Copy" "harmKnown" "Z", Cond.methodLink RX5 69 yX0_countHomeCopy, Cond.instanceMethod yX0_countHomeCopy, Cond.selects RX0 yX0_countHomeCopy yX0_countHomeCopy, Cond.initialized RX0, Cond.code yX0_countHomeCopy cX0_countHomeCopy 2 none, Cond.fieldLink RX0 15 "UnionList$Accounts" "homeCopies" "[I", Cond.methodLink RX5 72 yX5_sendNews, Cond.instanceMethod yX5_sendNews, Cond.selects RX5 yX5_sendNews yX5_sendNews, Cond.code yX5_sendNews cX5_sendNews 3 none, Cond.fieldLink RX5 149 "UnionList$Copy" "home" "I"]
def wsL_addCopy_r3 : List Cond := [Cond.methodLink RX5 212 yX5_wayToList, Cond.static yX5_wayToList, Cond.code yX5_wayToList cX5_wayToList 1 (some .int), Cond.methodLink RX5 156 yX5_send, Cond.instanceMethod yX5_send, Cond.selects RX5 yX5_send yX5_send, Cond.code yX5_send cX5_send 6 (some .int), Cond.fieldLink RX5 44 "UnionList" "day" "I", Cond.fieldLink RX5 26 "UnionList" "post" "LUnionList$Post;", Cond.classLink RX5 203 RX4, Cond.instantiable RX4 4, Cond.initialized RX4, Cond.methodLink RX5 205 yX4_init, Cond.instanceMethod yX4_init, Cond.code yX4_init cX4_init 5 none, Cond.methodLink RX4 1 objectInit, Cond.fieldLink RX4 7 "UnionList$Sent" "kind" "I", Cond.fieldLink RX4 13 "UnionList$Sent" "arrival" "I", Cond.fieldLink RX4 16 "UnionList$Sent" "copy" "LUnionList$Copy;", Cond.fieldLink RX4 20 "UnionList$Sent" "request" "LUnionList$Request;", Cond.methodLink RX5 208 yX2_put, Cond.instanceMethod yX2_put, Cond.selects RX2 yX2_put yX2_put, Cond.initialized RX2]
def wsL_addCopy_r4 : List Cond := [Cond.code yX2_put cX2_put 4 none, Cond.fieldLink RX2 21 "UnionList$Post" "size" "I", Cond.fieldLink RX2 15 "UnionList$Post" "waiting" "[LUnionList$Sent;", Cond.fieldLink RX2 25 "UnionList$Sent" "arrival" "I"]
def wsL_addCopy : List Cond := .codeWith yL_addCopy cL_addCopy 5 (some .int) [(0, 10, 13, 13), (0, 10, 17, 15)] :: ((wsL_addCopy_r1 ++ (wsL_addCopy_r2 ++ (wsL_addCopy_r3 ++ wsL_addCopy_r4))) ++ wsX50 ++ wsX10 ++ wsX00 ++ wsX40 ++ wsX20 ++ (vx_atS RX5 58 "java/lang/IllegalArgumentException" ["java/lang/RuntimeException", "java/lang/Exception"]).filter goodWord ++ (vx_atS RX5 65 "java/lang/IllegalStateException" ["java/lang/RuntimeException", "java/lang/Exception"]).filter goodWord)
def wsL_inHandsOf : List Cond := .codeWith yL_inHandsOf cL_inHandsOf 4 (some .int) [(0, 9, 12, 21)] :: ([.classLink RL 21 "java/lang/IndexOutOfBoundsException", .methodLink RL 17 yX5_inHandsOf, .instanceMethod yX5_inHandsOf, .selects RX5 yX5_inHandsOf yX5_inHandsOf, .initialized RX5, .code yX5_inHandsOf cX5_inHandsOf 2 (some .int), .fieldLink RX5 80 "UnionList$Copy" "holder" "I", .methodLink RX5 76 yX5_copyNumbered, .instanceMethod yX5_copyNumbered, .selects RX5 yX5_copyNumbered yX5_copyNumbered, .code yX5_copyNumbered cX5_copyNumbered 3 (some (.object "UnionList$Copy")), .classLink RX5 193 "java/lang/IndexOutOfBoundsException", .initialized "java/lang/IndexOutOfBoundsException", .fieldLink RX5 11 "UnionList" "copies" "[LUnionList$Copy;"] ++ wsX10 ++ wsX50 ++ (vx_atS RX5 197 "java/lang/IndexOutOfBoundsException" ["java/lang/RuntimeException", "java/lang/Exception"]).filter goodWord)
def wsL_isFree_r1 : List Cond := [Cond.classLink RL 21 "java/lang/IndexOutOfBoundsException", Cond.methodLink RL 23 yX5_isFree, Cond.instanceMethod yX5_isFree, Cond.selects RX5 yX5_isFree yX5_isFree, Cond.initialized RX5, Cond.code yX5_isFree cX5_isFree 2 (some .boolean), Cond.methodLink RX5 76 yX5_copyNumbered, Cond.instanceMethod yX5_copyNumbered, Cond.selects RX5 yX5_copyNumbered yX5_copyNumbered, Cond.code yX5_copyNumbered cX5_copyNumbered 3 (some (.object "UnionList$Copy")), Cond.classLink RX5 193 "java/lang/IndexOutOfBoundsException", Cond.initialized "java/lang/IndexOutOfBoundsException", Cond.fieldLink RX5 11 "UnionList" "copies" "[LUnionList$Copy;", Cond.methodLink RX5 83 yX1_canBeSent, Cond.instanceMethod yX1_canBeSent, Cond.selects RX1 yX1_canBeSent yX1_canBeSent, Cond.initialized RX1, Cond.code yX1_canBeSent cX1_canBeSent 1 (some .boolean), Cond.fieldLink RX1 34 "UnionList$Copy" "harmKnown" "Z", Cond.methodLink RX1 37 yX1_isAtHome, Cond.instanceMethod yX1_isAtHome, Cond.selects RX1 yX1_isAtHome yX1_isAtHome, Cond.code yX1_isAtHome cX1_isAtHome 1 (some .boolean), Cond.fieldLink RX1 21 "UnionList$Copy" "holder" "I"]
def wsL_isFree_r2 : List Cond := [Cond.fieldLink RX1 15 "UnionList$Copy" "home" "I", Cond.fieldLink RX1 24 "UnionList$Copy" "onItsWay" "Z"]
def wsL_isFree : List Cond := .codeWith yL_isFree cL_isFree 4 (some .int) [(0, 16, 19, 21)] :: ((wsL_isFree_r1 ++ wsL_isFree_r2) ++ wsX50 ++ wsX10 ++ (vx_atS RX5 197 "java/lang/IndexOutOfBoundsException" ["java/lang/RuntimeException", "java/lang/Exception"]).filter goodWord)
def wsL_listed : List Cond := .codeWith yL_listed cL_listed 4 (some .int) [(0, 9, 12, 21)] :: ([.classLink RL 21 "java/lang/IndexOutOfBoundsException", .methodLink RL 27 yX5_listed, .instanceMethod yX5_listed, .selects RX5 yX5_listed yX5_listed, .initialized RX5, .code yX5_listed cX5_listed 2 (some .int), .fieldLink RX5 87 "UnionList$Copy" "knownToList" "I", .methodLink RX5 76 yX5_copyNumbered, .instanceMethod yX5_copyNumbered, .selects RX5 yX5_copyNumbered yX5_copyNumbered, .code yX5_copyNumbered cX5_copyNumbered 3 (some (.object "UnionList$Copy")), .classLink RX5 193 "java/lang/IndexOutOfBoundsException", .initialized "java/lang/IndexOutOfBoundsException", .fieldLink RX5 11 "UnionList" "copies" "[LUnionList$Copy;"] ++ wsX10 ++ wsX50 ++ (vx_atS RX5 197 "java/lang/IndexOutOfBoundsException" ["java/lang/RuntimeException", "java/lang/Exception"]).filter goodWord)
def wsL_harm : List Cond := .codeWith yL_harm cL_harm 4 (some .int) [(0, 9, 12, 21), (0, 9, 15, 15)] :: ([.classLink RL 21 "java/lang/IndexOutOfBoundsException", .classLink RL 15 "java/lang/IllegalStateException", .methodLink RL 30 yX5_harm, .instanceMethod yX5_harm, .selects RX5 yX5_harm yX5_harm, .initialized RX5, .code yX5_harm cX5_harm 3 (some .int), .classLink RX5 61 "java/lang/IllegalStateException", .initialized "java/lang/IllegalStateException", .fieldLink RX5 80 "UnionList$Copy" "holder" "I", .fieldLink RX5 95 "UnionList$Copy" "harmedBy" "I", .methodLink RX5 76 yX5_copyNumbered, .instanceMethod yX5_copyNumbered, .selects RX5 yX5_copyNumbered yX5_copyNumbered, .code yX5_copyNumbered cX5_copyNumbered 3 (some (.object "UnionList$Copy")), .classLink RX5 193 "java/lang/IndexOutOfBoundsException", .initialized "java/lang/IndexOutOfBoundsException", .fieldLink RX5 11 "UnionList" "copies" "[LUnionList$Copy;", .methodLink RX5 90 yX1_isHarmed, .instanceMethod yX1_isHarmed, .selects RX1 yX1_isHarmed yX1_isHarmed, .initialized RX1, .code yX1_isHarmed cX1_isHarmed 1 (some .boolean), .fieldLink RX1 31 "UnionList$Copy" "harmedBy" "I"] ++ wsX10 ++ wsX50 ++ (vx_atS RX5 65 "java/lang/IllegalStateException" ["java/lang/RuntimeException", "java/lang/Exception"]).filter goodWord ++ (vx_atS RX5 197 "java/lang/IndexOutOfBoundsException" ["java/lang/RuntimeException", "java/lang/Exception"]).filter goodWord)
def wsL_look_r1 : List Cond := [Cond.classLink RL 21 "java/lang/IndexOutOfBoundsException", Cond.classLink RL 15 "java/lang/IllegalStateException", Cond.methodLink RL 33 yX5_look, Cond.instanceMethod yX5_look, Cond.selects RX5 yX5_look yX5_look, Cond.initialized RX5, Cond.code yX5_look cX5_look 3 (some .int), Cond.classLink RX5 61 "java/lang/IllegalStateException", Cond.initialized "java/lang/IllegalStateException", Cond.fieldLink RX5 98 "UnionList$Copy" "onItsWay" "Z", Cond.methodLink RX5 76 yX5_copyNumbered, Cond.instanceMethod yX5_copyNumbered, Cond.selects RX5 yX5_copyNumbered yX5_copyNumbered, Cond.code yX5_copyNumbered cX5_copyNumbered 3 (some (.object "UnionList$Copy")), Cond.classLink RX5 193 "java/lang/IndexOutOfBoundsException", Cond.initialized "java/lang/IndexOutOfBoundsException", Cond.fieldLink RX5 11 "UnionList" "copies" "[LUnionList$Copy;", Cond.methodLink RX5 104 yX5_examine, Cond.instanceMethod yX5_examine, Cond.selects RX5 yX5_examine yX5_examine, Cond.code yX5_examine cX5_examine 2 (some .int), Cond.fieldLink RX5 111 "UnionList$Copy" "harmKnown" "Z", Cond.fieldLink RX5 95 "UnionList$Copy" "harmedBy" "I", Cond.fieldLink RX5 149 "UnionList$Copy" "home" "I"]
def wsL_look_r2 : List Cond := [Cond.fieldLink RX5 33 "UnionList" "accounts" "LUnionList$Accounts;", Cond.methodLink RX5 90 yX1_isHarmed, Cond.instanceMethod yX1_isHarmed, Cond.selects RX1 yX1_isHarmed yX1_isHarmed, Cond.initialized RX1, Cond.code yX1_isHarmed cX1_isHarmed 1 (some .boolean), Cond.fieldLink RX1 31 "UnionList$Copy" "harmedBy" "I", Cond.methodLink RX5 170 yX0_charge, Cond.instanceMethod yX0_charge, Cond.selects RX0 yX0_charge yX0_charge, Cond.initialized RX0, Cond.code yX0_charge cX0_charge 4 none, Cond.fieldLink RX0 9 "UnionList$Accounts" "debts" "[I", Cond.static yX5_isHouse, Cond.code yX5_isHouse cX5_isHouse 1 (some .boolean)]
def wsL_look : List Cond := .codeWith yL_look cL_look 4 (some .int) [(0, 9, 12, 21), (0, 9, 15, 15)] :: ((wsL_look_r1 ++ wsL_look_r2) ++ wsX10 ++ wsX50 ++ wsX00 ++ (vx_atS RX5 65 "java/lang/IllegalStateException" ["java/lang/RuntimeException", "java/lang/Exception"]).filter goodWord ++ (vx_atS RX5 197 "java/lang/IndexOutOfBoundsException" ["java/lang/RuntimeException", "java/lang/Exception"]).filter goodWord)
def wsL_mend_r1 : List Cond := [Cond.classLink RL 21 "java/lang/IndexOutOfBoundsException", Cond.classLink RL 15 "java/lang/IllegalStateException", Cond.methodLink RL 36 yX5_mend, Cond.instanceMethod yX5_mend, Cond.selects RX5 yX5_mend yX5_mend, Cond.initialized RX5, Cond.code yX5_mend cX5_mend 3 none, Cond.classLink RX5 61 "java/lang/IllegalStateException", Cond.initialized "java/lang/IllegalStateException", Cond.fieldLink RX5 111 "UnionList$Copy" "harmKnown" "Z", Cond.fieldLink RX5 95 "UnionList$Copy" "harmedBy" "I", Cond.methodLink RX5 76 yX5_copyNumbered, Cond.instanceMethod yX5_copyNumbered, Cond.selects RX5 yX5_copyNumbered yX5_copyNumbered, Cond.code yX5_copyNumbered cX5_copyNumbered 3 (some (.object "UnionList$Copy")), Cond.classLink RX5 193 "java/lang/IndexOutOfBoundsException", Cond.initialized "java/lang/IndexOutOfBoundsException", Cond.fieldLink RX5 11 "UnionList" "copies" "[LUnionList$Copy;", Cond.methodLink RX5 108 yX1_isAtHome, Cond.instanceMethod yX1_isAtHome, Cond.selects RX1 yX1_isAtHome yX1_isAtHome, Cond.initialized RX1, Cond.code yX1_isAtHome cX1_isAtHome 1 (some .boolean), Cond.fieldLink RX1 21 "UnionList$Copy" "holder" "I"]
def wsL_mend_r2 : List Cond := [Cond.fieldLink RX1 15 "UnionList$Copy" "home" "I", Cond.fieldLink RX1 24 "UnionList$Copy" "onItsWay" "Z", Cond.methodLink RX5 72 yX5_sendNews, Cond.instanceMethod yX5_sendNews, Cond.selects RX5 yX5_sendNews yX5_sendNews, Cond.code yX5_sendNews cX5_sendNews 3 none, Cond.fieldLink RX5 149 "UnionList$Copy" "home" "I", Cond.methodLink RX5 212 yX5_wayToList, Cond.static yX5_wayToList, Cond.code yX5_wayToList cX5_wayToList 1 (some .int), Cond.methodLink RX5 156 yX5_send, Cond.instanceMethod yX5_send, Cond.selects RX5 yX5_send yX5_send, Cond.code yX5_send cX5_send 6 (some .int), Cond.fieldLink RX5 44 "UnionList" "day" "I", Cond.fieldLink RX5 26 "UnionList" "post" "LUnionList$Post;", Cond.classLink RX5 203 RX4, Cond.instantiable RX4 4, Cond.initialized RX4, Cond.methodLink RX5 205 yX4_init, Cond.instanceMethod yX4_init, Cond.code yX4_init cX4_init 5 none, Cond.methodLink RX4 1 objectInit, Cond.instanceMethod objectInit]
def wsL_mend_r3 : List Cond := [Cond.code objectInit ⟨#[0xb1]⟩ 1 none, Cond.fieldLink RX4 7 "UnionList$Sent" "kind" "I", Cond.fieldLink RX4 13 "UnionList$Sent" "arrival" "I", Cond.fieldLink RX4 16 "UnionList$Sent" "copy" "LUnionList$Copy;", Cond.fieldLink RX4 20 "UnionList$Sent" "request" "LUnionList$Request;", Cond.methodLink RX5 208 yX2_put, Cond.instanceMethod yX2_put, Cond.selects RX2 yX2_put yX2_put, Cond.initialized RX2, Cond.code yX2_put cX2_put 4 none, Cond.fieldLink RX2 21 "UnionList$Post" "size" "I", Cond.fieldLink RX2 15 "UnionList$Post" "waiting" "[LUnionList$Sent;", Cond.fieldLink RX2 25 "UnionList$Sent" "arrival" "I"]
def wsL_mend : List Cond := .codeWith yL_mend cL_mend 3 (some .int) [(0, 5, 8, 21), (0, 5, 11, 15)] :: ((wsL_mend_r1 ++ (wsL_mend_r2 ++ wsL_mend_r3)) ++ wsX10 ++ wsX50 ++ wsX40 ++ wsX20 ++ (vx_atS RX5 65 "java/lang/IllegalStateException" ["java/lang/RuntimeException", "java/lang/Exception"]).filter goodWord ++ (vx_atS RX5 197 "java/lang/IndexOutOfBoundsException" ["java/lang/RuntimeException", "java/lang/Exception"]).filter goodWord)
def wsL_request_r1 : List Cond := [Cond.classLink RL 13 "java/lang/IllegalArgumentException", Cond.classLink RL 15 "java/lang/IllegalStateException", Cond.methodLink RL 40 yX5_request, Cond.instanceMethod yX5_request, Cond.selects RX5 yX5_request yX5_request, Cond.initialized RX5, Cond.code yX5_request cX5_request 5 (some .int), Cond.classLink RX5 54 "java/lang/IllegalArgumentException", Cond.initialized "java/lang/IllegalArgumentException", Cond.classLink RX5 61 "java/lang/IllegalStateException", Cond.initialized "java/lang/IllegalStateException", Cond.fieldLink RX5 41 "UnionList" "requestCount" "I", Cond.fieldLink RX5 17 "UnionList" "requests" "[LUnionList$Request;", Cond.classLink RX5 15 RX3, Cond.instantiable RX3 7, Cond.initialized RX3, Cond.methodLink RX5 47 yX5_isHouse, Cond.static yX5_isHouse, Cond.code yX5_isHouse cX5_isHouse 1 (some .boolean), Cond.methodLink RX5 51 yX5_isTitle, Cond.static yX5_isTitle, Cond.code yX5_isTitle cX5_isTitle 1 (some .boolean), Cond.methodLink RX5 120 yX3_init, Cond.instanceMethod yX3_init]
def wsL_request_r2 : List Cond := [Cond.code yX3_init cX3_init 3 none, Cond.methodLink RX3 3 objectInit, Cond.instanceMethod objectInit, Cond.code objectInit ⟨#[0xb1]⟩ 1 none, Cond.fieldLink RX3 9 "UnionList$Request" "house" "I", Cond.fieldLink RX3 15 "UnionList$Request" "title" "I", Cond.fieldLink RX3 18 "UnionList$Request" "copy" "LUnionList$Copy;", Cond.fieldLink RX3 22 "UnionList$Request" "state" "I", Cond.fieldLink RX3 25 "UnionList$Request" "dueDay" "I", Cond.fieldLink RX3 28 "UnionList$Request" "recallSent" "Z", Cond.fieldLink RX3 32 "UnionList$Request" "askedHomes" "I", Cond.methodLink RX5 123 yX5_askNextHome, Cond.instanceMethod yX5_askNextHome, Cond.selects RX5 yX5_askNextHome yX5_askNextHome, Cond.code yX5_askNextHome cX5_askNextHome 3 none, Cond.fieldLink RX5 134 "UnionList$Request" "copy" "LUnionList$Copy;", Cond.fieldLink RX5 131 "UnionList$Request" "state" "I", Cond.fieldLink RX5 149 "UnionList$Copy" "home" "I", Cond.fieldLink RX5 146 "UnionList$Request" "house" "I", Cond.methodLink RX5 252 yX5_nearestListedFree, Cond.instanceMethod yX5_nearestListedFree, Cond.selects RX5 yX5_nearestListedFree yX5_nearestListedFree, Cond.code yX5_nearestListedFree cX5_nearestListedFree 9 (some (.object "UnionList$Copy")), Cond.fieldLink RX5 11 "UnionList" "copies" "[LUnionList$Copy;"]
def wsL_request_r3 : List Cond := [Cond.methodLink RX5 259 yX3_mayAskFor, Cond.instanceMethod yX3_mayAskFor, Cond.selects RX3 yX3_mayAskFor yX3_mayAskFor, Cond.code yX3_mayAskFor cX3_mayAskFor 3 (some .boolean), Cond.fieldLink RX3 35 "UnionList$Copy" "home" "I", Cond.fieldLink RX3 40 "UnionList$Copy" "title" "I", Cond.fieldLink RX3 41 "UnionList$Copy" "knownToList" "I", Cond.methodLink RX5 152 yX5_way, Cond.static yX5_way, Cond.code yX5_way cX5_way 2 (some .int), Cond.methodLink RX5 200 Lib.Math.abs.name, Cond.static Lib.Math.abs.name, Cond.initialized "java/lang/Math", Cond.code Lib.Math.abs.name Lib.Math.abs.code 1 (some .int), Cond.methodLink RX5 256 yX3_markAsked, Cond.instanceMethod yX3_markAsked, Cond.selects RX3 yX3_markAsked yX3_markAsked, Cond.code yX3_markAsked cX3_markAsked 2 none, Cond.methodLink RX5 156 yX5_send, Cond.instanceMethod yX5_send, Cond.selects RX5 yX5_send yX5_send, Cond.code yX5_send cX5_send 6 (some .int), Cond.fieldLink RX5 44 "UnionList" "day" "I", Cond.fieldLink RX5 26 "UnionList" "post" "LUnionList$Post;"]
def wsL_request_r4 : List Cond := [Cond.classLink RX5 203 RX4, Cond.instantiable RX4 4, Cond.initialized RX4, Cond.methodLink RX5 205 yX4_init, Cond.instanceMethod yX4_init, Cond.code yX4_init cX4_init 5 none, Cond.methodLink RX4 1 objectInit, Cond.fieldLink RX4 7 "UnionList$Sent" "kind" "I", Cond.fieldLink RX4 13 "UnionList$Sent" "arrival" "I", Cond.fieldLink RX4 16 "UnionList$Sent" "copy" "LUnionList$Copy;", Cond.fieldLink RX4 20 "UnionList$Sent" "request" "LUnionList$Request;", Cond.methodLink RX5 208 yX2_put, Cond.instanceMethod yX2_put, Cond.selects RX2 yX2_put yX2_put, Cond.initialized RX2, Cond.code yX2_put cX2_put 4 none, Cond.fieldLink RX2 21 "UnionList$Post" "size" "I", Cond.fieldLink RX2 15 "UnionList$Post" "waiting" "[LUnionList$Sent;", Cond.fieldLink RX2 25 "UnionList$Sent" "arrival" "I"]
def wsL_request : List Cond := .codeWith yL_request cL_request 5 (some .int) [(0, 10, 13, 13), (0, 10, 17, 15)] :: ((wsL_request_r1 ++ (wsL_request_r2 ++ (wsL_request_r3 ++ wsL_request_r4))) ++ wsX50 ++ wsX30 ++ wsX10 ++ wsX40 ++ wsX20 ++ (vx_atS RX5 58 "java/lang/IllegalArgumentException" ["java/lang/RuntimeException", "java/lang/Exception"]).filter goodWord ++ (vx_atS RX5 65 "java/lang/IllegalStateException" ["java/lang/RuntimeException", "java/lang/Exception"]).filter goodWord)
def wsL_state : List Cond := .codeWith yL_state cL_state 4 (some .int) [(0, 9, 12, 21)] :: ([.classLink RL 21 "java/lang/IndexOutOfBoundsException", .methodLink RL 43 yX5_state, .instanceMethod yX5_state, .selects RX5 yX5_state yX5_state, .initialized RX5, .code yX5_state cX5_state 2 (some .int), .fieldLink RX5 131 "UnionList$Request" "state" "I", .methodLink RX5 127 yX5_requestNumbered, .instanceMethod yX5_requestNumbered, .selects RX5 yX5_requestNumbered yX5_requestNumbered, .code yX5_requestNumbered cX5_requestNumbered 3 (some (.object "UnionList$Request")), .classLink RX5 193 "java/lang/IndexOutOfBoundsException", .initialized "java/lang/IndexOutOfBoundsException", .fieldLink RX5 17 "UnionList" "requests" "[LUnionList$Request;"] ++ wsX30 ++ wsX50 ++ (vx_atS RX5 197 "java/lang/IndexOutOfBoundsException" ["java/lang/RuntimeException", "java/lang/Exception"]).filter goodWord)
def wsL_copyOf : List Cond := .codeWith yL_copyOf cL_copyOf 4 (some .int) [(0, 9, 12, 21)] :: ([.classLink RL 21 "java/lang/IndexOutOfBoundsException", .methodLink RL 46 yX5_copyOf, .instanceMethod yX5_copyOf, .selects RX5 yX5_copyOf yX5_copyOf, .initialized RX5, .code yX5_copyOf cX5_copyOf 3 (some .int), .fieldLink RX5 134 "UnionList$Request" "copy" "LUnionList$Copy;", .fieldLink RX5 138 "UnionList$Copy" "number" "I", .methodLink RX5 127 yX5_requestNumbered, .instanceMethod yX5_requestNumbered, .selects RX5 yX5_requestNumbered yX5_requestNumbered, .code yX5_requestNumbered cX5_requestNumbered 3 (some (.object "UnionList$Request")), .classLink RX5 193 "java/lang/IndexOutOfBoundsException", .initialized "java/lang/IndexOutOfBoundsException", .fieldLink RX5 17 "UnionList" "requests" "[LUnionList$Request;"] ++ wsX30 ++ wsX10 ++ wsX50 ++ (vx_atS RX5 197 "java/lang/IndexOutOfBoundsException" ["java/lang/RuntimeException", "java/lang/Exception"]).filter goodWord)
def wsL_due : List Cond := .codeWith yL_due cL_due 4 (some .int) [(0, 9, 12, 21), (0, 9, 15, 15)] :: ([.classLink RL 21 "java/lang/IndexOutOfBoundsException", .classLink RL 15 "java/lang/IllegalStateException", .methodLink RL 49 yX5_due, .instanceMethod yX5_due, .selects RX5 yX5_due yX5_due, .initialized RX5, .code yX5_due cX5_due 3 (some .int), .classLink RX5 61 "java/lang/IllegalStateException", .initialized "java/lang/IllegalStateException", .fieldLink RX5 131 "UnionList$Request" "state" "I", .fieldLink RX5 143 "UnionList$Request" "dueDay" "I", .methodLink RX5 127 yX5_requestNumbered, .instanceMethod yX5_requestNumbered, .selects RX5 yX5_requestNumbered yX5_requestNumbered, .code yX5_requestNumbered cX5_requestNumbered 3 (some (.object "UnionList$Request")), .classLink RX5 193 "java/lang/IndexOutOfBoundsException", .initialized "java/lang/IndexOutOfBoundsException", .fieldLink RX5 17 "UnionList" "requests" "[LUnionList$Request;"] ++ wsX30 ++ wsX50 ++ (vx_atS RX5 65 "java/lang/IllegalStateException" ["java/lang/RuntimeException", "java/lang/Exception"]).filter goodWord ++ (vx_atS RX5 197 "java/lang/IndexOutOfBoundsException" ["java/lang/RuntimeException", "java/lang/Exception"]).filter goodWord)
def wsL_renew_r1 : List Cond := [Cond.classLink RL 21 "java/lang/IndexOutOfBoundsException", Cond.classLink RL 15 "java/lang/IllegalStateException", Cond.methodLink RL 52 yX5_renew, Cond.instanceMethod yX5_renew, Cond.selects RX5 yX5_renew yX5_renew, Cond.initialized RX5, Cond.code yX5_renew cX5_renew 4 (some .int), Cond.classLink RX5 61 "java/lang/IllegalStateException", Cond.initialized "java/lang/IllegalStateException", Cond.fieldLink RX5 134 "UnionList$Request" "copy" "LUnionList$Copy;", Cond.fieldLink RX5 131 "UnionList$Request" "state" "I", Cond.fieldLink RX5 146 "UnionList$Request" "house" "I", Cond.fieldLink RX5 149 "UnionList$Copy" "home" "I", Cond.methodLink RX5 127 yX5_requestNumbered, Cond.instanceMethod yX5_requestNumbered, Cond.selects RX5 yX5_requestNumbered yX5_requestNumbered, Cond.code yX5_requestNumbered cX5_requestNumbered 3 (some (.object "UnionList$Request")), Cond.classLink RX5 193 "java/lang/IndexOutOfBoundsException", Cond.initialized "java/lang/IndexOutOfBoundsException", Cond.fieldLink RX5 17 "UnionList" "requests" "[LUnionList$Request;", Cond.methodLink RX5 152 yX5_way, Cond.static yX5_way, Cond.code yX5_way cX5_way 2 (some .int), Cond.methodLink RX5 200 Lib.Math.abs.name]
def wsL_renew_r2 : List Cond := [Cond.static Lib.Math.abs.name, Cond.initialized "java/lang/Math", Cond.code Lib.Math.abs.name Lib.Math.abs.code 1 (some .int), Cond.methodLink RX5 156 yX5_send, Cond.instanceMethod yX5_send, Cond.selects RX5 yX5_send yX5_send, Cond.code yX5_send cX5_send 6 (some .int), Cond.fieldLink RX5 44 "UnionList" "day" "I", Cond.fieldLink RX5 26 "UnionList" "post" "LUnionList$Post;", Cond.classLink RX5 203 RX4, Cond.instantiable RX4 4, Cond.initialized RX4, Cond.methodLink RX5 205 yX4_init, Cond.instanceMethod yX4_init, Cond.code yX4_init cX4_init 5 none, Cond.methodLink RX4 1 objectInit, Cond.instanceMethod objectInit, Cond.code objectInit ⟨#[0xb1]⟩ 1 none, Cond.fieldLink RX4 7 "UnionList$Sent" "kind" "I", Cond.fieldLink RX4 13 "UnionList$Sent" "arrival" "I", Cond.fieldLink RX4 16 "UnionList$Sent" "copy" "LUnionList$Copy;", Cond.fieldLink RX4 20 "UnionList$Sent" "request" "LUnionList$Request;", Cond.methodLink RX5 208 yX2_put, Cond.instanceMethod yX2_put]
def wsL_renew_r3 : List Cond := [Cond.selects RX2 yX2_put yX2_put, Cond.initialized RX2, Cond.code yX2_put cX2_put 4 none, Cond.fieldLink RX2 21 "UnionList$Post" "size" "I", Cond.fieldLink RX2 15 "UnionList$Post" "waiting" "[LUnionList$Sent;", Cond.fieldLink RX2 25 "UnionList$Sent" "arrival" "I"]
def wsL_renew : List Cond := .codeWith yL_renew cL_renew 4 (some .int) [(0, 9, 12, 21), (0, 9, 15, 15)] :: ((wsL_renew_r1 ++ (wsL_renew_r2 ++ wsL_renew_r3)) ++ wsX30 ++ wsX10 ++ wsX50 ++ wsX40 ++ wsX20 ++ (vx_atS RX5 65 "java/lang/IllegalStateException" ["java/lang/RuntimeException", "java/lang/Exception"]).filter goodWord ++ (vx_atS RX5 197 "java/lang/IndexOutOfBoundsException" ["java/lang/RuntimeException", "java/lang/Exception"]).filter goodWord)
def wsL_recall_r1 : List Cond := [Cond.classLink RL 21 "java/lang/IndexOutOfBoundsException", Cond.classLink RL 15 "java/lang/IllegalStateException", Cond.methodLink RL 55 yX5_recall, Cond.instanceMethod yX5_recall, Cond.selects RX5 yX5_recall yX5_recall, Cond.initialized RX5, Cond.code yX5_recall cX5_recall 4 (some .int), Cond.classLink RX5 61 "java/lang/IllegalStateException", Cond.initialized "java/lang/IllegalStateException", Cond.fieldLink RX5 134 "UnionList$Request" "copy" "LUnionList$Copy;", Cond.fieldLink RX5 131 "UnionList$Request" "state" "I", Cond.fieldLink RX5 160 "UnionList$Request" "recallSent" "Z", Cond.fieldLink RX5 146 "UnionList$Request" "house" "I", Cond.fieldLink RX5 149 "UnionList$Copy" "home" "I", Cond.methodLink RX5 127 yX5_requestNumbered, Cond.instanceMethod yX5_requestNumbered, Cond.selects RX5 yX5_requestNumbered yX5_requestNumbered, Cond.code yX5_requestNumbered cX5_requestNumbered 3 (some (.object "UnionList$Request")), Cond.classLink RX5 193 "java/lang/IndexOutOfBoundsException", Cond.initialized "java/lang/IndexOutOfBoundsException", Cond.fieldLink RX5 17 "UnionList" "requests" "[LUnionList$Request;", Cond.methodLink RX5 152 yX5_way, Cond.static yX5_way, Cond.code yX5_way cX5_way 2 (some .int)]
def wsL_recall_r2 : List Cond := [Cond.methodLink RX5 200 Lib.Math.abs.name, Cond.static Lib.Math.abs.name, Cond.initialized "java/lang/Math", Cond.code Lib.Math.abs.name Lib.Math.abs.code 1 (some .int), Cond.methodLink RX5 156 yX5_send, Cond.instanceMethod yX5_send, Cond.selects RX5 yX5_send yX5_send, Cond.code yX5_send cX5_send 6 (some .int), Cond.fieldLink RX5 44 "UnionList" "day" "I", Cond.fieldLink RX5 26 "UnionList" "post" "LUnionList$Post;", Cond.classLink RX5 203 RX4, Cond.instantiable RX4 4, Cond.initialized RX4, Cond.methodLink RX5 205 yX4_init, Cond.instanceMethod yX4_init, Cond.code yX4_init cX4_init 5 none, Cond.methodLink RX4 1 objectInit, Cond.instanceMethod objectInit, Cond.code objectInit ⟨#[0xb1]⟩ 1 none, Cond.fieldLink RX4 7 "UnionList$Sent" "kind" "I", Cond.fieldLink RX4 13 "UnionList$Sent" "arrival" "I", Cond.fieldLink RX4 16 "UnionList$Sent" "copy" "LUnionList$Copy;", Cond.fieldLink RX4 20 "UnionList$Sent" "request" "LUnionList$Request;", Cond.methodLink RX5 208 yX2_put]
def wsL_recall_r3 : List Cond := [Cond.instanceMethod yX2_put, Cond.selects RX2 yX2_put yX2_put, Cond.initialized RX2, Cond.code yX2_put cX2_put 4 none, Cond.fieldLink RX2 21 "UnionList$Post" "size" "I", Cond.fieldLink RX2 15 "UnionList$Post" "waiting" "[LUnionList$Sent;", Cond.fieldLink RX2 25 "UnionList$Sent" "arrival" "I"]
def wsL_recall : List Cond := .codeWith yL_recall cL_recall 4 (some .int) [(0, 9, 12, 21), (0, 9, 15, 15)] :: ((wsL_recall_r1 ++ (wsL_recall_r2 ++ wsL_recall_r3)) ++ wsX30 ++ wsX10 ++ wsX50 ++ wsX40 ++ wsX20 ++ (vx_atS RX5 65 "java/lang/IllegalStateException" ["java/lang/RuntimeException", "java/lang/Exception"]).filter goodWord ++ (vx_atS RX5 197 "java/lang/IndexOutOfBoundsException" ["java/lang/RuntimeException", "java/lang/Exception"]).filter goodWord)
def wsL_sendBack_r1 : List Cond := [Cond.classLink RL 21 "java/lang/IndexOutOfBoundsException", Cond.classLink RL 15 "java/lang/IllegalStateException", Cond.methodLink RL 58 yX5_sendBack, Cond.instanceMethod yX5_sendBack, Cond.selects RX5 yX5_sendBack yX5_sendBack, Cond.initialized RX5, Cond.code yX5_sendBack cX5_sendBack 5 (some .int), Cond.classLink RX5 61 "java/lang/IllegalStateException", Cond.initialized "java/lang/IllegalStateException", Cond.fieldLink RX5 134 "UnionList$Request" "copy" "LUnionList$Copy;", Cond.fieldLink RX5 131 "UnionList$Request" "state" "I", Cond.fieldLink RX5 44 "UnionList" "day" "I", Cond.fieldLink RX5 143 "UnionList$Request" "dueDay" "I", Cond.methodLink RX5 165 Lib.Math.max.name, Cond.static Lib.Math.max.name, Cond.initialized "java/lang/Math", Cond.code Lib.Math.max.name Lib.Math.max.code 2 (some .int), Cond.fieldLink RX5 33 "UnionList" "accounts" "LUnionList$Accounts;", Cond.fieldLink RX5 146 "UnionList$Request" "house" "I", Cond.fieldLink RX5 149 "UnionList$Copy" "home" "I", Cond.fieldLink RX5 98 "UnionList$Copy" "onItsWay" "Z", Cond.methodLink RX5 127 yX5_requestNumbered, Cond.instanceMethod yX5_requestNumbered, Cond.selects RX5 yX5_requestNumbered yX5_requestNumbered]
def wsL_sendBack_r2 : List Cond := [Cond.code yX5_requestNumbered cX5_requestNumbered 3 (some (.object "UnionList$Request")), Cond.classLink RX5 193 "java/lang/IndexOutOfBoundsException", Cond.initialized "java/lang/IndexOutOfBoundsException", Cond.fieldLink RX5 17 "UnionList" "requests" "[LUnionList$Request;", Cond.methodLink RX5 170 yX0_charge, Cond.instanceMethod yX0_charge, Cond.selects RX0 yX0_charge yX0_charge, Cond.initialized RX0, Cond.code yX0_charge cX0_charge 4 none, Cond.fieldLink RX0 9 "UnionList$Accounts" "debts" "[I", Cond.static yX5_isHouse, Cond.code yX5_isHouse cX5_isHouse 1 (some .boolean), Cond.methodLink RX5 152 yX5_way, Cond.static yX5_way, Cond.code yX5_way cX5_way 2 (some .int), Cond.methodLink RX5 200 Lib.Math.abs.name, Cond.static Lib.Math.abs.name, Cond.code Lib.Math.abs.name Lib.Math.abs.code 1 (some .int), Cond.methodLink RX5 156 yX5_send, Cond.instanceMethod yX5_send, Cond.selects RX5 yX5_send yX5_send, Cond.code yX5_send cX5_send 6 (some .int), Cond.fieldLink RX5 26 "UnionList" "post" "LUnionList$Post;", Cond.classLink RX5 203 RX4]
def wsL_sendBack_r3 : List Cond := [Cond.instantiable RX4 4, Cond.initialized RX4, Cond.methodLink RX5 205 yX4_init, Cond.instanceMethod yX4_init, Cond.code yX4_init cX4_init 5 none, Cond.methodLink RX4 1 objectInit, Cond.instanceMethod objectInit, Cond.code objectInit ⟨#[0xb1]⟩ 1 none, Cond.fieldLink RX4 7 "UnionList$Sent" "kind" "I", Cond.fieldLink RX4 13 "UnionList$Sent" "arrival" "I", Cond.fieldLink RX4 16 "UnionList$Sent" "copy" "LUnionList$Copy;", Cond.fieldLink RX4 20 "UnionList$Sent" "request" "LUnionList$Request;", Cond.methodLink RX5 208 yX2_put, Cond.instanceMethod yX2_put, Cond.selects RX2 yX2_put yX2_put, Cond.initialized RX2, Cond.code yX2_put cX2_put 4 none, Cond.fieldLink RX2 21 "UnionList$Post" "size" "I", Cond.fieldLink RX2 15 "UnionList$Post" "waiting" "[LUnionList$Sent;", Cond.fieldLink RX2 25 "UnionList$Sent" "arrival" "I"]
def wsL_sendBack : List Cond := .codeWith yL_sendBack cL_sendBack 4 (some .int) [(0, 9, 12, 21), (0, 9, 15, 15)] :: ((wsL_sendBack_r1 ++ (wsL_sendBack_r2 ++ wsL_sendBack_r3)) ++ wsX30 ++ wsX50 ++ wsX10 ++ wsX00 ++ wsX40 ++ wsX20 ++ (vx_atS RX5 65 "java/lang/IllegalStateException" ["java/lang/RuntimeException", "java/lang/Exception"]).filter goodWord ++ (vx_atS RX5 197 "java/lang/IndexOutOfBoundsException" ["java/lang/RuntimeException", "java/lang/Exception"]).filter goodWord)
def wsL_pass_r1 : List Cond := [Cond.classLink RL 13 "java/lang/IllegalArgumentException", Cond.methodLink RL 61 yX5_pass, Cond.instanceMethod yX5_pass, Cond.selects RX5 yX5_pass yX5_pass, Cond.initialized RX5, Cond.code yX5_pass cX5_pass 4 (some .int), Cond.classLink RX5 54 "java/lang/IllegalArgumentException", Cond.initialized "java/lang/IllegalArgumentException", Cond.methodLink RX5 175 yX5_arrivalsOfNextDay, Cond.instanceMethod yX5_arrivalsOfNextDay, Cond.selects RX5 yX5_arrivalsOfNextDay yX5_arrivalsOfNextDay, Cond.code yX5_arrivalsOfNextDay cX5_arrivalsOfNextDay 5 (some .int), Cond.fieldLink RX5 44 "UnionList" "day" "I", Cond.fieldLink RX5 33 "UnionList" "accounts" "LUnionList$Accounts;", Cond.fieldLink RX5 26 "UnionList" "post" "LUnionList$Post;", Cond.fieldLink RX5 218 "UnionList$Post" "size" "I", Cond.methodLink RX5 215 yX0_beginQuarter, Cond.instanceMethod yX0_beginQuarter, Cond.selects RX0 yX0_beginQuarter yX0_beginQuarter, Cond.initialized RX0, Cond.code yX0_beginQuarter cX0_beginQuarter 2 none, Cond.fieldLink RX0 18 "UnionList$Accounts" "freeLoans" "[I", Cond.methodLink RX5 221 yX2_takeArrived, Cond.instanceMethod yX2_takeArrived]
def wsL_pass_r2 : List Cond := [Cond.selects RX2 yX2_takeArrived yX2_takeArrived, Cond.initialized RX2, Cond.code yX2_takeArrived cX2_takeArrived 4 (some (.object "UnionList$Sent")), Cond.fieldLink RX2 21 "UnionList$Post" "size" "I", Cond.fieldLink RX2 15 "UnionList$Post" "waiting" "[LUnionList$Sent;", Cond.fieldLink RX2 25 "UnionList$Sent" "arrival" "I", Cond.methodLink RX5 225 yX5_deliver, Cond.instanceMethod yX5_deliver, Cond.selects RX5 yX5_deliver yX5_deliver, Cond.code yX5_deliver cX5_deliver 4 none, Cond.fieldLink RX5 228 "UnionList$Sent" "copy" "LUnionList$Copy;", Cond.fieldLink RX5 229 "UnionList$Sent" "request" "LUnionList$Request;", Cond.fieldLink RX5 233 "UnionList$Sent" "kind" "I", Cond.fieldLink RX5 87 "UnionList$Copy" "knownToList" "I", Cond.methodLink RX5 236 yX5_answerQuestion, Cond.instanceMethod yX5_answerQuestion, Cond.selects RX5 yX5_answerQuestion yX5_answerQuestion, Cond.code yX5_answerQuestion cX5_answerQuestion 3 none, Cond.fieldLink RX5 131 "UnionList$Request" "state" "I", Cond.fieldLink RX5 98 "UnionList$Copy" "onItsWay" "Z", Cond.fieldLink RX5 146 "UnionList$Request" "house" "I", Cond.fieldLink RX5 149 "UnionList$Copy" "home" "I", Cond.methodLink RX5 83 yX1_canBeSent, Cond.instanceMethod yX1_canBeSent]
def wsL_pass_r3 : List Cond := [Cond.selects RX1 yX1_canBeSent yX1_canBeSent, Cond.initialized RX1, Cond.code yX1_canBeSent cX1_canBeSent 1 (some .boolean), Cond.fieldLink RX1 34 "UnionList$Copy" "harmKnown" "Z", Cond.methodLink RX1 37 yX1_isAtHome, Cond.instanceMethod yX1_isAtHome, Cond.selects RX1 yX1_isAtHome yX1_isAtHome, Cond.code yX1_isAtHome cX1_isAtHome 1 (some .boolean), Cond.fieldLink RX1 21 "UnionList$Copy" "holder" "I", Cond.fieldLink RX1 15 "UnionList$Copy" "home" "I", Cond.fieldLink RX1 24 "UnionList$Copy" "onItsWay" "Z", Cond.methodLink RX5 123 yX5_askNextHome, Cond.instanceMethod yX5_askNextHome, Cond.selects RX5 yX5_askNextHome yX5_askNextHome, Cond.code yX5_askNextHome cX5_askNextHome 3 none, Cond.fieldLink RX5 134 "UnionList$Request" "copy" "LUnionList$Copy;", Cond.methodLink RX5 252 yX5_nearestListedFree, Cond.instanceMethod yX5_nearestListedFree, Cond.selects RX5 yX5_nearestListedFree yX5_nearestListedFree, Cond.code yX5_nearestListedFree cX5_nearestListedFree 9 (some (.object "UnionList$Copy")), Cond.fieldLink RX5 11 "UnionList" "copies" "[LUnionList$Copy;", Cond.methodLink RX5 259 yX3_mayAskFor, Cond.instanceMethod yX3_mayAskFor, Cond.selects RX3 yX3_mayAskFor yX3_mayAskFor]
def wsL_pass_r4 : List Cond := [Cond.initialized RX3, Cond.code yX3_mayAskFor cX3_mayAskFor 3 (some .boolean), Cond.fieldLink RX3 32 "UnionList$Request" "askedHomes" "I", Cond.fieldLink RX3 35 "UnionList$Copy" "home" "I", Cond.fieldLink RX3 40 "UnionList$Copy" "title" "I", Cond.fieldLink RX3 15 "UnionList$Request" "title" "I", Cond.fieldLink RX3 41 "UnionList$Copy" "knownToList" "I", Cond.fieldLink RX3 9 "UnionList$Request" "house" "I", Cond.methodLink RX5 152 yX5_way, Cond.static yX5_way, Cond.code yX5_way cX5_way 2 (some .int), Cond.methodLink RX5 200 Lib.Math.abs.name, Cond.static Lib.Math.abs.name, Cond.initialized "java/lang/Math", Cond.code Lib.Math.abs.name Lib.Math.abs.code 1 (some .int), Cond.methodLink RX5 256 yX3_markAsked, Cond.instanceMethod yX3_markAsked, Cond.selects RX3 yX3_markAsked yX3_markAsked, Cond.code yX3_markAsked cX3_markAsked 2 none, Cond.methodLink RX5 156 yX5_send, Cond.instanceMethod yX5_send, Cond.selects RX5 yX5_send yX5_send, Cond.code yX5_send cX5_send 6 (some .int), Cond.classLink RX5 203 RX4]
def wsL_pass_r5 : List Cond := [Cond.instantiable RX4 4, Cond.initialized RX4, Cond.methodLink RX5 205 yX4_init, Cond.instanceMethod yX4_init, Cond.code yX4_init cX4_init 5 none, Cond.methodLink RX4 1 objectInit, Cond.instanceMethod objectInit, Cond.code objectInit ⟨#[0xb1]⟩ 1 none, Cond.fieldLink RX4 7 "UnionList$Sent" "kind" "I", Cond.fieldLink RX4 13 "UnionList$Sent" "arrival" "I", Cond.fieldLink RX4 16 "UnionList$Sent" "copy" "LUnionList$Copy;", Cond.fieldLink RX4 20 "UnionList$Sent" "request" "LUnionList$Request;", Cond.methodLink RX5 208 yX2_put, Cond.instanceMethod yX2_put, Cond.selects RX2 yX2_put yX2_put, Cond.code yX2_put cX2_put 4 none, Cond.methodLink RX5 72 yX5_sendNews, Cond.instanceMethod yX5_sendNews, Cond.selects RX5 yX5_sendNews yX5_sendNews, Cond.code yX5_sendNews cX5_sendNews 3 none, Cond.methodLink RX5 212 yX5_wayToList, Cond.static yX5_wayToList, Cond.code yX5_wayToList cX5_wayToList 1 (some .int), Cond.methodLink RX5 240 yX5_beginLoan]
def wsL_pass_r6 : List Cond := [Cond.instanceMethod yX5_beginLoan, Cond.selects RX5 yX5_beginLoan yX5_beginLoan, Cond.code yX5_beginLoan cX5_beginLoan 3 none, Cond.fieldLink RX5 80 "UnionList$Copy" "holder" "I", Cond.fieldLink RX5 143 "UnionList$Request" "dueDay" "I", Cond.methodLink RX5 263 yX0_chargeLoan, Cond.instanceMethod yX0_chargeLoan, Cond.selects RX0 yX0_chargeLoan yX0_chargeLoan, Cond.code yX0_chargeLoan cX0_chargeLoan 3 none, Cond.fieldLink RX0 15 "UnionList$Accounts" "homeCopies" "[I", Cond.static yX5_isHouse, Cond.code yX5_isHouse cX5_isHouse 1 (some .boolean), Cond.methodLink RX0 25 yX0_charge, Cond.instanceMethod yX0_charge, Cond.selects RX0 yX0_charge yX0_charge, Cond.code yX0_charge cX0_charge 4 none, Cond.fieldLink RX0 9 "UnionList$Accounts" "debts" "[I", Cond.methodLink RX5 243 yX5_comeHome, Cond.instanceMethod yX5_comeHome, Cond.selects RX5 yX5_comeHome yX5_comeHome, Cond.code yX5_comeHome cX5_comeHome 3 none, Cond.methodLink RX5 104 yX5_examine, Cond.instanceMethod yX5_examine, Cond.selects RX5 yX5_examine yX5_examine]
def wsL_pass_r7 : List Cond := [Cond.code yX5_examine cX5_examine 2 (some .int), Cond.fieldLink RX5 111 "UnionList$Copy" "harmKnown" "Z", Cond.fieldLink RX5 95 "UnionList$Copy" "harmedBy" "I", Cond.methodLink RX5 90 yX1_isHarmed, Cond.instanceMethod yX1_isHarmed, Cond.selects RX1 yX1_isHarmed yX1_isHarmed, Cond.code yX1_isHarmed cX1_isHarmed 1 (some .boolean), Cond.fieldLink RX1 31 "UnionList$Copy" "harmedBy" "I", Cond.methodLink RX5 170 yX0_charge, Cond.methodLink RX5 246 yX5_prolong, Cond.instanceMethod yX5_prolong, Cond.selects RX5 yX5_prolong yX5_prolong, Cond.code yX5_prolong cX5_prolong 2 none, Cond.fieldLink RX5 160 "UnionList$Request" "recallSent" "Z", Cond.methodLink RX5 249 yX5_shorten, Cond.instanceMethod yX5_shorten, Cond.selects RX5 yX5_shorten yX5_shorten, Cond.code yX5_shorten cX5_shorten 2 none, Cond.methodLink RX5 266 Lib.Math.min.name, Cond.static Lib.Math.min.name, Cond.code Lib.Math.min.name Lib.Math.min.code 2 (some .int)]
def wsL_pass : List Cond := .codeWith yL_pass cL_pass 4 (some .int) [(0, 9, 12, 13)] :: ((wsL_pass_r1 ++ (wsL_pass_r2 ++ (wsL_pass_r3 ++ (wsL_pass_r4 ++ (wsL_pass_r5 ++ (wsL_pass_r6 ++ wsL_pass_r7)))))) ++ wsX50 ++ wsX20 ++ wsX00 ++ wsX40 ++ wsX10 ++ wsX30 ++ (vx_atS RX5 58 "java/lang/IllegalArgumentException" ["java/lang/RuntimeException", "java/lang/Exception"]).filter goodWord)
def wsL_owes : List Cond := .codeWith yL_owes cL_owes 5 (some .int) [(0, 10, 13, 13)] :: ([.classLink RL 13 "java/lang/IllegalArgumentException", .methodLink RL 64 yX5_owes, .instanceMethod yX5_owes, .selects RX5 yX5_owes yX5_owes, .initialized RX5, .code yX5_owes cX5_owes 3 (some .int), .classLink RX5 54 "java/lang/IllegalArgumentException", .initialized "java/lang/IllegalArgumentException", .fieldLink RX5 33 "UnionList" "accounts" "LUnionList$Accounts;", .methodLink RX5 47 yX5_isHouse, .static yX5_isHouse, .code yX5_isHouse cX5_isHouse 1 (some .boolean), .methodLink RX5 181 yX0_balance, .instanceMethod yX0_balance, .selects RX0 yX0_balance yX0_balance, .initialized RX0, .code yX0_balance cX0_balance 3 (some .int), .fieldLink RX0 9 "UnionList$Accounts" "debts" "[I"] ++ wsX50 ++ wsX00 ++ (vx_atS RX5 58 "java/lang/IllegalArgumentException" ["java/lang/RuntimeException", "java/lang/Exception"]).filter goodWord)
def wsL_quota : List Cond := .codeWith yL_quota cL_quota 4 (some .int) [(0, 9, 12, 13)] :: ([.classLink RL 13 "java/lang/IllegalArgumentException", .methodLink RL 67 yX5_quota, .instanceMethod yX5_quota, .selects RX5 yX5_quota yX5_quota, .initialized RX5, .code yX5_quota cX5_quota 2 (some .int), .classLink RX5 54 "java/lang/IllegalArgumentException", .initialized "java/lang/IllegalArgumentException", .fieldLink RX5 33 "UnionList" "accounts" "LUnionList$Accounts;", .methodLink RX5 47 yX5_isHouse, .static yX5_isHouse, .code yX5_isHouse cX5_isHouse 1 (some .boolean), .methodLink RX5 189 yX0_freeLoansOf, .instanceMethod yX0_freeLoansOf, .selects RX0 yX0_freeLoansOf yX0_freeLoansOf, .initialized RX0, .code yX0_freeLoansOf cX0_freeLoansOf 2 (some .int), .fieldLink RX0 18 "UnionList$Accounts" "freeLoans" "[I"] ++ wsX50 ++ wsX00 ++ (vx_atS RX5 58 "java/lang/IllegalArgumentException" ["java/lang/RuntimeException", "java/lang/Exception"]).filter goodWord)
def wsL_law0_r1 : List Cond := [Cond.classLink RL 8 RX5, Cond.instantiable RX5 7, Cond.initialized RX5, Cond.classLink RL 71 RX6, Cond.instantiable RX6 24, Cond.initialized RX6, Cond.arrayClass .long, Cond.methodLink RL 70 yX5_init, Cond.instanceMethod yX5_init, Cond.code yX5_init cX5_init 1 none, Cond.methodLink RX5 1 objectInit, Cond.instanceMethod objectInit, Cond.code objectInit ⟨#[0xb1]⟩ 1 none, Cond.classLink RX5 9 RX1, Cond.fieldLink RX5 11 "UnionList" "copies" "[LUnionList$Copy;", Cond.classLink RX5 15 RX3, Cond.fieldLink RX5 17 "UnionList" "requests" "[LUnionList$Request;", Cond.classLink RX5 21 RX2, Cond.instantiable RX2 2, Cond.initialized RX2, Cond.fieldLink RX5 26 "UnionList" "post" "LUnionList$Post;", Cond.classLink RX5 30 RX0, Cond.instantiable RX0 3, Cond.initialized RX0]
def wsL_law0_r2 : List Cond := [Cond.fieldLink RX5 33 "UnionList" "accounts" "LUnionList$Accounts;", Cond.fieldLink RX5 37 "UnionList" "copyCount" "I", Cond.fieldLink RX5 41 "UnionList" "requestCount" "I", Cond.fieldLink RX5 44 "UnionList" "day" "I", Cond.methodLink RX5 23 yX2_init, Cond.instanceMethod yX2_init, Cond.code yX2_init cX2_init 2 none, Cond.methodLink RX2 1 objectInit, Cond.methodLink RX2 7 Lib.Math.max.name, Cond.static Lib.Math.max.name, Cond.initialized "java/lang/Math", Cond.code Lib.Math.max.name Lib.Math.max.code 2 (some .int), Cond.classLink RX2 13 RX4, Cond.fieldLink RX2 15 "UnionList$Post" "waiting" "[LUnionList$Sent;", Cond.fieldLink RX2 21 "UnionList$Post" "size" "I", Cond.methodLink RX5 32 yX0_init, Cond.instanceMethod yX0_init, Cond.code yX0_init cX0_init 1 none, Cond.methodLink RX0 3 objectInit, Cond.arrayClass .int, Cond.fieldLink RX0 9 "UnionList$Accounts" "debts" "[I", Cond.fieldLink RX0 15 "UnionList$Accounts" "homeCopies" "[I", Cond.fieldLink RX0 18 "UnionList$Accounts" "freeLoans" "[I", Cond.methodLink RL 73 yX6_init]
def wsL_law0_r3 : List Cond := [Cond.instanceMethod yX6_init, Cond.code yX6_init cX6_init 1 none, Cond.methodLink RX6 1 objectInit, Cond.fieldLink RX6 7 "UnionListModel" "home" "[I", Cond.fieldLink RX6 13 "UnionListModel" "title" "[I", Cond.fieldLink RX6 16 "UnionListModel" "place" "[I", Cond.fieldLink RX6 19 "UnionListModel" "hands" "[I", Cond.fieldLink RX6 22 "UnionListModel" "knows" "[I", Cond.fieldLink RX6 25 "UnionListModel" "harmed" "[I", Cond.fieldLink RX6 28 "UnionListModel" "seen" "[I", Cond.fieldLink RX6 31 "UnionListModel" "whose" "[I", Cond.fieldLink RX6 34 "UnionListModel" "wanted" "[I", Cond.fieldLink RX6 37 "UnionListModel" "stage" "[I", Cond.fieldLink RX6 40 "UnionListModel" "loaned" "[I", Cond.fieldLink RX6 43 "UnionListModel" "until" "[I", Cond.fieldLink RX6 46 "UnionListModel" "asked" "[I", Cond.fieldLink RX6 49 "UnionListModel" "called" "[I", Cond.fieldLink RX6 52 "UnionListModel" "kind" "[I", Cond.fieldLink RX6 55 "UnionListModel" "what" "[I", Cond.fieldLink RX6 58 "UnionListModel" "day" "[I", Cond.fieldLink RX6 61 "UnionListModel" "debt" "[I", Cond.fieldLink RX6 64 "UnionListModel" "spared" "[I", Cond.methodLink RL 74 yL_addCopy, Cond.static yL_addCopy]
def wsL_law0_r4 : List Cond := [Cond.initialized RL, Cond.codeWith yL_addCopy cL_addCopy 5 (some .int) [(0, 10, 13, 13), (0, 10, 17, 15)], Cond.classLink RL 13 "java/lang/IllegalArgumentException", Cond.classLink RL 15 "java/lang/IllegalStateException", Cond.methodLink RL 7 yX5_addCopy, Cond.instanceMethod yX5_addCopy, Cond.selects RX5 yX5_addCopy yX5_addCopy, Cond.code yX5_addCopy cX5_addCopy 5 (some .int), Cond.classLink RX5 54 "java/lang/IllegalArgumentException", Cond.initialized "java/lang/IllegalArgumentException", Cond.classLink RX5 61 "java/lang/IllegalStateException", Cond.initialized "java/lang/IllegalStateException", Cond.instantiable RX1 8, Cond.initialized RX1, Cond.methodLink RX5 47 yX5_isHouse, Cond.static yX5_isHouse, Cond.code yX5_isHouse cX5_isHouse 1 (some .boolean), Cond.methodLink RX5 51 yX5_isTitle, Cond.static yX5_isTitle, Cond.code yX5_isTitle cX5_isTitle 1 (some .boolean), Cond.methodLink RX5 66 yX1_init, Cond.instanceMethod yX1_init, Cond.code yX1_init cX1_init 4 none, Cond.methodLink RX1 3 objectInit]
def wsL_law0_r5 : List Cond := [Cond.fieldLink RX1 9 "UnionList$Copy" "number" "I", Cond.fieldLink RX1 15 "UnionList$Copy" "home" "I", Cond.fieldLink RX1 18 "UnionList$Copy" "title" "I", Cond.fieldLink RX1 21 "UnionList$Copy" "holder" "I", Cond.fieldLink RX1 24 "UnionList$Copy" "onItsWay" "Z", Cond.fieldLink RX1 28 "UnionList$Copy" "knownToList" "I", Cond.fieldLink RX1 31 "UnionList$Copy" "harmedBy" "I", Cond.fieldLink RX1 34 "UnionList$Copy" "harmKnown" "Z", Cond.methodLink RX5 69 yX0_countHomeCopy, Cond.instanceMethod yX0_countHomeCopy, Cond.selects RX0 yX0_countHomeCopy yX0_countHomeCopy, Cond.code yX0_countHomeCopy cX0_countHomeCopy 2 none, Cond.methodLink RX5 72 yX5_sendNews, Cond.instanceMethod yX5_sendNews, Cond.selects RX5 yX5_sendNews yX5_sendNews, Cond.code yX5_sendNews cX5_sendNews 3 none, Cond.fieldLink RX5 149 "UnionList$Copy" "home" "I", Cond.methodLink RX5 212 yX5_wayToList, Cond.static yX5_wayToList, Cond.code yX5_wayToList cX5_wayToList 1 (some .int), Cond.methodLink RX5 156 yX5_send, Cond.instanceMethod yX5_send, Cond.selects RX5 yX5_send yX5_send, Cond.code yX5_send cX5_send 6 (some .int)]
def wsL_law0_r6 : List Cond := [Cond.classLink RX5 203 RX4, Cond.instantiable RX4 4, Cond.initialized RX4, Cond.methodLink RX5 205 yX4_init, Cond.instanceMethod yX4_init, Cond.code yX4_init cX4_init 5 none, Cond.methodLink RX4 1 objectInit, Cond.fieldLink RX4 7 "UnionList$Sent" "kind" "I", Cond.fieldLink RX4 13 "UnionList$Sent" "arrival" "I", Cond.fieldLink RX4 16 "UnionList$Sent" "copy" "LUnionList$Copy;", Cond.fieldLink RX4 20 "UnionList$Sent" "request" "LUnionList$Request;", Cond.methodLink RX5 208 yX2_put, Cond.instanceMethod yX2_put, Cond.selects RX2 yX2_put yX2_put, Cond.code yX2_put cX2_put 4 none, Cond.fieldLink RX2 25 "UnionList$Sent" "arrival" "I", Cond.methodLink RL 79 yX6_addCopy, Cond.instanceMethod yX6_addCopy, Cond.selects RX6 yX6_addCopy yX6_addCopy, Cond.code yX6_addCopy cX6_addCopy 3 (some .int), Cond.fieldLink RX6 75 "UnionListModel" "copies" "I", Cond.methodLink RX6 91 yX6_isHouse, Cond.instanceMethod yX6_isHouse, Cond.selects RX6 yX6_isHouse yX6_isHouse]
def wsL_law0_r7 : List Cond := [Cond.code yX6_isHouse cX6_isHouse 2 (some .boolean), Cond.methodLink RX6 71 yX6_between, Cond.instanceMethod yX6_between, Cond.selects RX6 yX6_between yX6_between, Cond.code yX6_between cX6_between 4 (some .boolean), Cond.methodLink RX6 95 yX6_holds, Cond.instanceMethod yX6_holds, Cond.selects RX6 yX6_holds yX6_holds, Cond.code yX6_holds cX6_holds 2 (some .boolean), Cond.fieldLink RX6 67 "UnionListModel" "thrown" "I", Cond.methodLink RX6 98 yX6_tell, Cond.instanceMethod yX6_tell, Cond.selects RX6 yX6_tell yX6_tell, Cond.code yX6_tell cX6_tell 3 none, Cond.methodLink RX6 87 yX6_send, Cond.instanceMethod yX6_send, Cond.selects RX6 yX6_send yX6_send, Cond.code yX6_send cX6_send 4 (some .int), Cond.fieldLink RX6 81 "UnionListModel" "under" "I", Cond.fieldLink RX6 84 "UnionListModel" "now" "I", Cond.methodLink RL 80 yX6_thrown, Cond.instanceMethod yX6_thrown, Cond.selects RX6 yX6_thrown yX6_thrown, Cond.code yX6_thrown cX6_thrown 1 (some .int)]
def wsL_law0_r8 : List Cond := [Cond.methodLink RL 84 yL_inHandsOf, Cond.static yL_inHandsOf, Cond.codeWith yL_inHandsOf cL_inHandsOf 4 (some .int) [(0, 9, 12, 21)], Cond.classLink RL 21 "java/lang/IndexOutOfBoundsException", Cond.methodLink RL 17 yX5_inHandsOf, Cond.instanceMethod yX5_inHandsOf, Cond.selects RX5 yX5_inHandsOf yX5_inHandsOf, Cond.code yX5_inHandsOf cX5_inHandsOf 2 (some .int), Cond.fieldLink RX5 80 "UnionList$Copy" "holder" "I", Cond.methodLink RX5 76 yX5_copyNumbered, Cond.instanceMethod yX5_copyNumbered, Cond.selects RX5 yX5_copyNumbered yX5_copyNumbered, Cond.code yX5_copyNumbered cX5_copyNumbered 3 (some (.object "UnionList$Copy")), Cond.classLink RX5 193 "java/lang/IndexOutOfBoundsException", Cond.initialized "java/lang/IndexOutOfBoundsException", Cond.methodLink RL 87 yX6_inHandsOf, Cond.instanceMethod yX6_inHandsOf, Cond.selects RX6 yX6_inHandsOf yX6_inHandsOf, Cond.code yX6_inHandsOf cX6_inHandsOf 2 (some .int), Cond.methodLink RX6 102 yX6_isCopy, Cond.instanceMethod yX6_isCopy, Cond.selects RX6 yX6_isCopy yX6_isCopy, Cond.code yX6_isCopy cX6_isCopy 2 (some .boolean), Cond.methodLink RL 88 yL_isFree]
def wsL_law0_r9 : List Cond := [Cond.static yL_isFree, Cond.codeWith yL_isFree cL_isFree 4 (some .int) [(0, 16, 19, 21)], Cond.methodLink RL 23 yX5_isFree, Cond.instanceMethod yX5_isFree, Cond.selects RX5 yX5_isFree yX5_isFree, Cond.code yX5_isFree cX5_isFree 2 (some .boolean), Cond.methodLink RX5 83 yX1_canBeSent, Cond.instanceMethod yX1_canBeSent, Cond.selects RX1 yX1_canBeSent yX1_canBeSent, Cond.code yX1_canBeSent cX1_canBeSent 1 (some .boolean), Cond.methodLink RX1 37 yX1_isAtHome, Cond.instanceMethod yX1_isAtHome, Cond.selects RX1 yX1_isAtHome yX1_isAtHome, Cond.code yX1_isAtHome cX1_isAtHome 1 (some .boolean), Cond.methodLink RL 90 yX6_isFree, Cond.instanceMethod yX6_isFree, Cond.selects RX6 yX6_isFree yX6_isFree, Cond.code yX6_isFree cX6_isFree 2 (some .boolean), Cond.methodLink RX6 105 yX6_free, Cond.instanceMethod yX6_free, Cond.selects RX6 yX6_free yX6_free, Cond.code yX6_free cX6_free 2 (some .boolean), Cond.methodLink RL 91 yL_listed, Cond.static yL_listed]
def wsL_law0_r10 : List Cond := [Cond.codeWith yL_listed cL_listed 4 (some .int) [(0, 9, 12, 21)], Cond.methodLink RL 27 yX5_listed, Cond.instanceMethod yX5_listed, Cond.selects RX5 yX5_listed yX5_listed, Cond.code yX5_listed cX5_listed 2 (some .int), Cond.fieldLink RX5 87 "UnionList$Copy" "knownToList" "I", Cond.methodLink RL 93 yX6_listed, Cond.instanceMethod yX6_listed, Cond.selects RX6 yX6_listed yX6_listed, Cond.code yX6_listed cX6_listed 2 (some .int), Cond.methodLink RL 94 yL_harm, Cond.static yL_harm, Cond.codeWith yL_harm cL_harm 4 (some .int) [(0, 9, 12, 21), (0, 9, 15, 15)], Cond.methodLink RL 30 yX5_harm, Cond.instanceMethod yX5_harm, Cond.selects RX5 yX5_harm yX5_harm, Cond.code yX5_harm cX5_harm 3 (some .int), Cond.fieldLink RX5 95 "UnionList$Copy" "harmedBy" "I", Cond.methodLink RX5 90 yX1_isHarmed, Cond.instanceMethod yX1_isHarmed, Cond.selects RX1 yX1_isHarmed yX1_isHarmed, Cond.code yX1_isHarmed cX1_isHarmed 1 (some .boolean), Cond.methodLink RL 96 yX6_harm, Cond.instanceMethod yX6_harm]
def wsL_law0_r11 : List Cond := [Cond.selects RX6 yX6_harm yX6_harm, Cond.code yX6_harm cX6_harm 2 (some .int), Cond.methodLink RL 97 yL_look, Cond.static yL_look, Cond.codeWith yL_look cL_look 4 (some .int) [(0, 9, 12, 21), (0, 9, 15, 15)], Cond.methodLink RL 33 yX5_look, Cond.instanceMethod yX5_look, Cond.selects RX5 yX5_look yX5_look, Cond.code yX5_look cX5_look 3 (some .int), Cond.fieldLink RX5 98 "UnionList$Copy" "onItsWay" "Z", Cond.methodLink RX5 104 yX5_examine, Cond.instanceMethod yX5_examine, Cond.selects RX5 yX5_examine yX5_examine, Cond.code yX5_examine cX5_examine 2 (some .int), Cond.fieldLink RX5 111 "UnionList$Copy" "harmKnown" "Z", Cond.methodLink RX5 170 yX0_charge, Cond.instanceMethod yX0_charge, Cond.selects RX0 yX0_charge yX0_charge, Cond.code yX0_charge cX0_charge 4 none, Cond.methodLink RL 99 yX6_look, Cond.instanceMethod yX6_look, Cond.selects RX6 yX6_look yX6_look, Cond.code yX6_look cX6_look 2 (some .int), Cond.methodLink RX6 112 yX6_find]
def wsL_law0_r12 : List Cond := [Cond.instanceMethod yX6_find, Cond.selects RX6 yX6_find yX6_find, Cond.code yX6_find cX6_find 2 (some .int), Cond.methodLink RX6 108 yX6_owe, Cond.instanceMethod yX6_owe, Cond.selects RX6 yX6_owe yX6_owe, Cond.code yX6_owe cX6_owe 4 none, Cond.methodLink RL 100 yL_mend, Cond.static yL_mend, Cond.codeWith yL_mend cL_mend 3 (some .int) [(0, 5, 8, 21), (0, 5, 11, 15)], Cond.methodLink RL 36 yX5_mend, Cond.instanceMethod yX5_mend, Cond.selects RX5 yX5_mend yX5_mend, Cond.code yX5_mend cX5_mend 3 none, Cond.methodLink RX5 108 yX1_isAtHome, Cond.methodLink RL 103 yX6_mend, Cond.instanceMethod yX6_mend, Cond.selects RX6 yX6_mend yX6_mend, Cond.code yX6_mend cX6_mend 2 none, Cond.methodLink RL 104 yL_request, Cond.static yL_request, Cond.codeWith yL_request cL_request 5 (some .int) [(0, 10, 13, 13), (0, 10, 17, 15)], Cond.methodLink RL 40 yX5_request, Cond.instanceMethod yX5_request]
def wsL_law0_r13 : List Cond := [Cond.selects RX5 yX5_request yX5_request, Cond.code yX5_request cX5_request 5 (some .int), Cond.instantiable RX3 7, Cond.initialized RX3, Cond.methodLink RX5 120 yX3_init, Cond.instanceMethod yX3_init, Cond.code yX3_init cX3_init 3 none, Cond.methodLink RX3 3 objectInit, Cond.fieldLink RX3 9 "UnionList$Request" "house" "I", Cond.fieldLink RX3 15 "UnionList$Request" "title" "I", Cond.fieldLink RX3 18 "UnionList$Request" "copy" "LUnionList$Copy;", Cond.fieldLink RX3 22 "UnionList$Request" "state" "I", Cond.fieldLink RX3 25 "UnionList$Request" "dueDay" "I", Cond.fieldLink RX3 28 "UnionList$Request" "recallSent" "Z", Cond.fieldLink RX3 32 "UnionList$Request" "askedHomes" "I", Cond.methodLink RX5 123 yX5_askNextHome, Cond.instanceMethod yX5_askNextHome, Cond.selects RX5 yX5_askNextHome yX5_askNextHome, Cond.code yX5_askNextHome cX5_askNextHome 3 none, Cond.fieldLink RX5 134 "UnionList$Request" "copy" "LUnionList$Copy;", Cond.fieldLink RX5 131 "UnionList$Request" "state" "I", Cond.fieldLink RX5 146 "UnionList$Request" "house" "I", Cond.methodLink RX5 252 yX5_nearestListedFree, Cond.instanceMethod yX5_nearestListedFree]
def wsL_law0_r14 : List Cond := [Cond.selects RX5 yX5_nearestListedFree yX5_nearestListedFree, Cond.code yX5_nearestListedFree cX5_nearestListedFree 9 (some (.object "UnionList$Copy")), Cond.methodLink RX5 259 yX3_mayAskFor, Cond.instanceMethod yX3_mayAskFor, Cond.selects RX3 yX3_mayAskFor yX3_mayAskFor, Cond.code yX3_mayAskFor cX3_mayAskFor 3 (some .boolean), Cond.fieldLink RX3 35 "UnionList$Copy" "home" "I", Cond.fieldLink RX3 40 "UnionList$Copy" "title" "I", Cond.fieldLink RX3 41 "UnionList$Copy" "knownToList" "I", Cond.methodLink RX5 152 yX5_way, Cond.static yX5_way, Cond.code yX5_way cX5_way 2 (some .int), Cond.methodLink RX5 200 Lib.Math.abs.name, Cond.static Lib.Math.abs.name, Cond.code Lib.Math.abs.name Lib.Math.abs.code 1 (some .int), Cond.methodLink RX5 256 yX3_markAsked, Cond.instanceMethod yX3_markAsked, Cond.selects RX3 yX3_markAsked yX3_markAsked, Cond.code yX3_markAsked cX3_markAsked 2 none, Cond.methodLink RL 106 yX6_request, Cond.instanceMethod yX6_request, Cond.selects RX6 yX6_request yX6_request, Cond.code yX6_request cX6_request 3 (some .int), Cond.fieldLink RX6 78 "UnionListModel" "requests" "I"]
def wsL_law0_r15 : List Cond := [Cond.methodLink RX6 120 yX6_ask, Cond.instanceMethod yX6_ask, Cond.selects RX6 yX6_ask yX6_ask, Cond.code yX6_ask cX6_ask 5 none, Cond.methodLink RX6 116 yX6_way, Cond.instanceMethod yX6_way, Cond.selects RX6 yX6_way yX6_way, Cond.code yX6_way cX6_way 3 (some .int), Cond.methodLink RL 107 yL_state, Cond.static yL_state, Cond.codeWith yL_state cL_state 4 (some .int) [(0, 9, 12, 21)], Cond.methodLink RL 43 yX5_state, Cond.instanceMethod yX5_state, Cond.selects RX5 yX5_state yX5_state, Cond.code yX5_state cX5_state 2 (some .int), Cond.methodLink RX5 127 yX5_requestNumbered, Cond.instanceMethod yX5_requestNumbered, Cond.selects RX5 yX5_requestNumbered yX5_requestNumbered, Cond.code yX5_requestNumbered cX5_requestNumbered 3 (some (.object "UnionList$Request")), Cond.methodLink RL 109 yX6_state, Cond.instanceMethod yX6_state, Cond.selects RX6 yX6_state yX6_state, Cond.code yX6_state cX6_state 2 (some .int), Cond.methodLink RX6 124 yX6_isRequest]
def wsL_law0_r16 : List Cond := [Cond.instanceMethod yX6_isRequest, Cond.selects RX6 yX6_isRequest yX6_isRequest, Cond.code yX6_isRequest cX6_isRequest 2 (some .boolean), Cond.methodLink RL 110 yL_copyOf, Cond.static yL_copyOf, Cond.codeWith yL_copyOf cL_copyOf 4 (some .int) [(0, 9, 12, 21)], Cond.methodLink RL 46 yX5_copyOf, Cond.instanceMethod yX5_copyOf, Cond.selects RX5 yX5_copyOf yX5_copyOf, Cond.code yX5_copyOf cX5_copyOf 3 (some .int), Cond.fieldLink RX5 138 "UnionList$Copy" "number" "I", Cond.methodLink RL 112 yX6_copyOf, Cond.instanceMethod yX6_copyOf, Cond.selects RX6 yX6_copyOf yX6_copyOf, Cond.code yX6_copyOf cX6_copyOf 2 (some .int), Cond.methodLink RL 113 yL_due, Cond.static yL_due, Cond.codeWith yL_due cL_due 4 (some .int) [(0, 9, 12, 21), (0, 9, 15, 15)], Cond.methodLink RL 49 yX5_due, Cond.instanceMethod yX5_due, Cond.selects RX5 yX5_due yX5_due, Cond.code yX5_due cX5_due 3 (some .int), Cond.fieldLink RX5 143 "UnionList$Request" "dueDay" "I", Cond.methodLink RL 115 yX6_due]
def wsL_law0_r17 : List Cond := [Cond.instanceMethod yX6_due, Cond.selects RX6 yX6_due yX6_due, Cond.code yX6_due cX6_due 2 (some .int), Cond.methodLink RX6 127 yX6_refuses, Cond.instanceMethod yX6_refuses, Cond.selects RX6 yX6_refuses yX6_refuses, Cond.code yX6_refuses cX6_refuses 2 (some .int), Cond.methodLink RL 116 yL_renew, Cond.static yL_renew, Cond.codeWith yL_renew cL_renew 4 (some .int) [(0, 9, 12, 21), (0, 9, 15, 15)], Cond.methodLink RL 52 yX5_renew, Cond.instanceMethod yX5_renew, Cond.selects RX5 yX5_renew yX5_renew, Cond.code yX5_renew cX5_renew 4 (some .int), Cond.methodLink RL 118 yX6_renew, Cond.instanceMethod yX6_renew, Cond.selects RX6 yX6_renew yX6_renew, Cond.code yX6_renew cX6_renew 2 (some .int), Cond.methodLink RX6 130 yX6_length, Cond.instanceMethod yX6_length, Cond.selects RX6 yX6_length yX6_length, Cond.code yX6_length cX6_length 2 (some .int), Cond.methodLink RL 119 yL_recall, Cond.static yL_recall]
def wsL_law0_r18 : List Cond := [Cond.codeWith yL_recall cL_recall 4 (some .int) [(0, 9, 12, 21), (0, 9, 15, 15)], Cond.methodLink RL 55 yX5_recall, Cond.instanceMethod yX5_recall, Cond.selects RX5 yX5_recall yX5_recall, Cond.code yX5_recall cX5_recall 4 (some .int), Cond.fieldLink RX5 160 "UnionList$Request" "recallSent" "Z", Cond.methodLink RL 121 yX6_recall, Cond.instanceMethod yX6_recall, Cond.selects RX6 yX6_recall yX6_recall, Cond.code yX6_recall cX6_recall 2 (some .int), Cond.methodLink RL 122 yL_sendBack, Cond.static yL_sendBack, Cond.codeWith yL_sendBack cL_sendBack 4 (some .int) [(0, 9, 12, 21), (0, 9, 15, 15)], Cond.methodLink RL 58 yX5_sendBack, Cond.instanceMethod yX5_sendBack, Cond.selects RX5 yX5_sendBack yX5_sendBack, Cond.code yX5_sendBack cX5_sendBack 5 (some .int), Cond.methodLink RX5 165 Lib.Math.max.name, Cond.methodLink RL 124 yX6_sendBack, Cond.instanceMethod yX6_sendBack, Cond.selects RX6 yX6_sendBack yX6_sendBack, Cond.code yX6_sendBack cX6_sendBack 4 (some .int), Cond.methodLink RL 125 yL_pass, Cond.static yL_pass]
def wsL_law0_r19 : List Cond := [Cond.codeWith yL_pass cL_pass 4 (some .int) [(0, 9, 12, 13)], Cond.methodLink RL 61 yX5_pass, Cond.instanceMethod yX5_pass, Cond.selects RX5 yX5_pass yX5_pass, Cond.code yX5_pass cX5_pass 4 (some .int), Cond.methodLink RX5 175 yX5_arrivalsOfNextDay, Cond.instanceMethod yX5_arrivalsOfNextDay, Cond.selects RX5 yX5_arrivalsOfNextDay yX5_arrivalsOfNextDay, Cond.code yX5_arrivalsOfNextDay cX5_arrivalsOfNextDay 5 (some .int), Cond.fieldLink RX5 218 "UnionList$Post" "size" "I", Cond.methodLink RX5 215 yX0_beginQuarter, Cond.instanceMethod yX0_beginQuarter, Cond.selects RX0 yX0_beginQuarter yX0_beginQuarter, Cond.code yX0_beginQuarter cX0_beginQuarter 2 none, Cond.methodLink RX5 221 yX2_takeArrived, Cond.instanceMethod yX2_takeArrived, Cond.selects RX2 yX2_takeArrived yX2_takeArrived, Cond.code yX2_takeArrived cX2_takeArrived 4 (some (.object "UnionList$Sent")), Cond.methodLink RX5 225 yX5_deliver, Cond.instanceMethod yX5_deliver, Cond.selects RX5 yX5_deliver yX5_deliver, Cond.code yX5_deliver cX5_deliver 4 none, Cond.fieldLink RX5 228 "UnionList$Sent" "copy" "LUnionList$Copy;", Cond.fieldLink RX5 229 "UnionList$Sent" "request" "LUnionList$Request;"]
def wsL_law0_r20 : List Cond := [Cond.fieldLink RX5 233 "UnionList$Sent" "kind" "I", Cond.methodLink RX5 236 yX5_answerQuestion, Cond.instanceMethod yX5_answerQuestion, Cond.selects RX5 yX5_answerQuestion yX5_answerQuestion, Cond.code yX5_answerQuestion cX5_answerQuestion 3 none, Cond.methodLink RX5 240 yX5_beginLoan, Cond.instanceMethod yX5_beginLoan, Cond.selects RX5 yX5_beginLoan yX5_beginLoan, Cond.code yX5_beginLoan cX5_beginLoan 3 none, Cond.methodLink RX5 263 yX0_chargeLoan, Cond.instanceMethod yX0_chargeLoan, Cond.selects RX0 yX0_chargeLoan yX0_chargeLoan, Cond.code yX0_chargeLoan cX0_chargeLoan 3 none, Cond.methodLink RX0 25 yX0_charge, Cond.methodLink RX5 243 yX5_comeHome, Cond.instanceMethod yX5_comeHome, Cond.selects RX5 yX5_comeHome yX5_comeHome, Cond.code yX5_comeHome cX5_comeHome 3 none, Cond.methodLink RX5 246 yX5_prolong, Cond.instanceMethod yX5_prolong, Cond.selects RX5 yX5_prolong yX5_prolong, Cond.code yX5_prolong cX5_prolong 2 none, Cond.methodLink RX5 249 yX5_shorten, Cond.instanceMethod yX5_shorten]
def wsL_law0_r21 : List Cond := [Cond.selects RX5 yX5_shorten yX5_shorten, Cond.code yX5_shorten cX5_shorten 2 none, Cond.methodLink RX5 266 Lib.Math.min.name, Cond.static Lib.Math.min.name, Cond.code Lib.Math.min.name Lib.Math.min.code 2 (some .int), Cond.methodLink RL 127 yX6_pass, Cond.instanceMethod yX6_pass, Cond.selects RX6 yX6_pass yX6_pass, Cond.code yX6_pass cX6_pass 5 (some .int), Cond.methodLink RX6 145 yX6_arriveAll, Cond.instanceMethod yX6_arriveAll, Cond.selects RX6 yX6_arriveAll yX6_arriveAll, Cond.code yX6_arriveAll cX6_arriveAll 5 (some .int), Cond.methodLink RX6 142 yX6_arrive, Cond.instanceMethod yX6_arrive, Cond.selects RX6 yX6_arrive yX6_arrive, Cond.code yX6_arrive cX6_arrive 3 none, Cond.methodLink RX6 136 yX6_answer, Cond.instanceMethod yX6_answer, Cond.selects RX6 yX6_answer yX6_answer, Cond.code yX6_answer cX6_answer 3 none, Cond.methodLink RX6 139 yX6_come, Cond.instanceMethod yX6_come, Cond.selects RX6 yX6_come yX6_come]
def wsL_law0_r22 : List Cond := [Cond.code yX6_come cX6_come 5 none, Cond.methodLink RX6 133 yX6_homes, Cond.instanceMethod yX6_homes, Cond.selects RX6 yX6_homes yX6_homes, Cond.code yX6_homes cX6_homes 4 (some .int), Cond.methodLink RL 128 yX5_today, Cond.instanceMethod yX5_today, Cond.selects RX5 yX5_today yX5_today, Cond.code yX5_today cX5_today 1 (some .int), Cond.methodLink RL 131 yX6_today, Cond.instanceMethod yX6_today, Cond.selects RX6 yX6_today yX6_today, Cond.code yX6_today cX6_today 1 (some .int), Cond.methodLink RX6 149 yX6_plain, Cond.instanceMethod yX6_plain, Cond.selects RX6 yX6_plain yX6_plain, Cond.code yX6_plain cX6_plain 2 (some .int), Cond.methodLink RL 132 yL_owes, Cond.static yL_owes, Cond.codeWith yL_owes cL_owes 5 (some .int) [(0, 10, 13, 13)], Cond.methodLink RL 64 yX5_owes, Cond.instanceMethod yX5_owes, Cond.selects RX5 yX5_owes yX5_owes, Cond.code yX5_owes cX5_owes 3 (some .int)]
def wsL_law0_r23 : List Cond := [Cond.methodLink RX5 181 yX0_balance, Cond.instanceMethod yX0_balance, Cond.selects RX0 yX0_balance yX0_balance, Cond.code yX0_balance cX0_balance 3 (some .int), Cond.methodLink RL 134 yX6_owes, Cond.instanceMethod yX6_owes, Cond.selects RX6 yX6_owes yX6_owes, Cond.code yX6_owes cX6_owes 3 (some .int), Cond.methodLink RL 135 yX5_settle, Cond.instanceMethod yX5_settle, Cond.selects RX5 yX5_settle yX5_settle, Cond.code yX5_settle cX5_settle 1 (some .int), Cond.methodLink RX5 184 yX0_clearDebts, Cond.instanceMethod yX0_clearDebts, Cond.selects RX0 yX0_clearDebts yX0_clearDebts, Cond.code yX0_clearDebts cX0_clearDebts 4 (some .int), Cond.methodLink RX0 29 yX0_balance, Cond.methodLink RL 138 yX6_settle, Cond.instanceMethod yX6_settle, Cond.selects RX6 yX6_settle yX6_settle, Cond.code yX6_settle cX6_settle 3 (some .int), Cond.methodLink RL 139 yL_quota, Cond.static yL_quota, Cond.codeWith yL_quota cL_quota 4 (some .int) [(0, 9, 12, 13)]]
def wsL_law0_r24 : List Cond := [Cond.methodLink RL 67 yX5_quota, Cond.instanceMethod yX5_quota, Cond.selects RX5 yX5_quota yX5_quota, Cond.code yX5_quota cX5_quota 2 (some .int), Cond.methodLink RX5 189 yX0_freeLoansOf, Cond.instanceMethod yX0_freeLoansOf, Cond.selects RX0 yX0_freeLoansOf yX0_freeLoansOf, Cond.code yX0_freeLoansOf cX0_freeLoansOf 2 (some .int), Cond.methodLink RL 141 yX6_quota, Cond.instanceMethod yX6_quota, Cond.selects RX6 yX6_quota yX6_quota, Cond.code yX6_quota cX6_quota 2 (some .int)]
def wsL_law0 : List Cond := (wsL_law0_r1 ++ (wsL_law0_r2 ++ (wsL_law0_r3 ++ (wsL_law0_r4 ++ (wsL_law0_r5 ++ (wsL_law0_r6 ++ (wsL_law0_r7 ++ (wsL_law0_r8 ++ (wsL_law0_r9 ++ (wsL_law0_r10 ++ (wsL_law0_r11 ++ (wsL_law0_r12 ++ (wsL_law0_r13 ++ (wsL_law0_r14 ++ (wsL_law0_r15 ++ (wsL_law0_r16 ++ (wsL_law0_r17 ++ (wsL_law0_r18 ++ (wsL_law0_r19 ++ (wsL_law0_r20 ++ (wsL_law0_r21 ++ (wsL_law0_r22 ++ (wsL_law0_r23 ++ wsL_law0_r24))))))))))))))))))))))) ++ wsX50 ++ wsX60 ++ wsX20 ++ wsX00 ++ wsX10 ++ wsX40 ++ wsX30 ++ ([] : List Cond)
def wsL_law : List Cond := wsL_law0 ++ (vx_atS RX5 58 "java/lang/IllegalArgumentException" ["java/lang/RuntimeException", "java/lang/Exception"]).filter goodWord ++ (vx_atS RX5 65 "java/lang/IllegalStateException" ["java/lang/RuntimeException", "java/lang/Exception"]).filter goodWord ++ (vx_atS RX5 197 "java/lang/IndexOutOfBoundsException" ["java/lang/RuntimeException", "java/lang/Exception"]).filter goodWord
theorem inlX0 : ∀ w ∈ wsX00, w ∈ wsL_law := fun _ h => List.mem_append_left _ (List.mem_append_left _ (List.mem_append_left _ (List.mem_append_left _ (List.mem_append_left _ (List.mem_append_left _ (List.mem_append_left _ (List.mem_append_right _ h)))))))
theorem inlX1 : ∀ w ∈ wsX10, w ∈ wsL_law := fun _ h => List.mem_append_left _ (List.mem_append_left _ (List.mem_append_left _ (List.mem_append_left _ (List.mem_append_left _ (List.mem_append_left _ (List.mem_append_right _ h))))))
theorem inlX2 : ∀ w ∈ wsX20, w ∈ wsL_law := fun _ h => List.mem_append_left _ (List.mem_append_left _ (List.mem_append_left _ (List.mem_append_left _ (List.mem_append_left _ (List.mem_append_left _ (List.mem_append_left _ (List.mem_append_left _ (List.mem_append_right _ h))))))))
theorem inlX3 : ∀ w ∈ wsX30, w ∈ wsL_law := fun _ h => List.mem_append_left _ (List.mem_append_left _ (List.mem_append_left _ (List.mem_append_left _ (List.mem_append_right _ h))))
theorem inlX4 : ∀ w ∈ wsX40, w ∈ wsL_law := fun _ h => List.mem_append_left _ (List.mem_append_left _ (List.mem_append_left _ (List.mem_append_left _ (List.mem_append_left _ (List.mem_append_right _ h)))))
theorem inlX5 : ∀ w ∈ wsX50, w ∈ wsL_law := fun _ h => List.mem_append_left _ (List.mem_append_left _ (List.mem_append_left _ (List.mem_append_left _ (List.mem_append_left _ (List.mem_append_left _ (List.mem_append_left _ (List.mem_append_left _ (List.mem_append_left _ (List.mem_append_left _ (List.mem_append_right _ h))))))))))
theorem inlX6 : ∀ w ∈ wsX60, w ∈ wsL_law := fun _ h => List.mem_append_left _ (List.mem_append_left _ (List.mem_append_left _ (List.mem_append_left _ (List.mem_append_left _ (List.mem_append_left _ (List.mem_append_left _ (List.mem_append_left _ (List.mem_append_left _ (List.mem_append_right _ h)))))))))
theorem inJ9 : ∀ w ∈ wsJ90, w ∈ lw_tbl := by decide +kernel
theorem inJ0 : ∀ w ∈ wsJ00, w ∈ lw_tbl := by decide +kernel
abbrev vwCl : List vw_C := [(RX0, TX0, 3), (RX1, TX1, 8), (RX2, TX2, 2), (RX3, TX3, 7), (RX4, TX4, 4), (RX5, TX5, 7), (RX6, TX6, 24)]
end
section
theorem dX0_init_0 : decode cX0_init 0 = .ok (.aload_n 0, 1) := by decide +kernel
theorem dX0_init_1 : decode cX0_init 1 = .ok (.invokespecial 3, 3) := by decide +kernel
theorem dX0_init_4 : decode cX0_init 4 = .ok (.aload_n 0, 1) := by decide +kernel
theorem dX0_init_5 : decode cX0_init 5 = .ok (.bipush 36, 2) := by decide +kernel
theorem dX0_init_7 : decode cX0_init 7 = .ok (.newarray .int, 2) := by decide +kernel
theorem dX0_init_9 : decode cX0_init 9 = .ok (.putfield 9, 3) := by decide +kernel
theorem dX0_init_12 : decode cX0_init 12 = .ok (.aload_n 0, 1) := by decide +kernel
theorem dX0_init_13 : decode cX0_init 13 = .ok (.bipush 6, 2) := by decide +kernel
theorem dX0_init_15 : decode cX0_init 15 = .ok (.newarray .int, 2) := by decide +kernel
theorem dX0_init_17 : decode cX0_init 17 = .ok (.putfield 15, 3) := by decide +kernel
theorem dX0_init_20 : decode cX0_init 20 = .ok (.aload_n 0, 1) := by decide +kernel
theorem dX0_init_21 : decode cX0_init 21 = .ok (.bipush 6, 2) := by decide +kernel
theorem dX0_init_23 : decode cX0_init 23 = .ok (.newarray .int, 2) := by decide +kernel
theorem dX0_init_25 : decode cX0_init 25 = .ok (.putfield 18, 3) := by decide +kernel
theorem dX0_init_28 : decode cX0_init 28 = .ok (.return_, 1) := by decide +kernel
set_option maxRecDepth 20000 in
theorem ggX0_countHomeCopy_X5_isHouse : GoodIn wsX0_countHomeCopy wsX5_isHouse := goodIn_r _ [4] (by decide +kernel) (by decide +kernel)
set_option maxRecDepth 20000 in
theorem gX0_countHomeCopy_X5_isHouse_n21 : GoodIn wsX0_countHomeCopy (wsX5_isHouse) := ggX0_countHomeCopy_X5_isHouse
theorem dX0_countHomeCopy_0 : decode cX0_countHomeCopy 0 = .ok (.iload_n 1, 1) := by decide +kernel
theorem dX0_countHomeCopy_1 : decode cX0_countHomeCopy 1 = .ok (.invokestatic 21, 3) := by decide +kernel
theorem dX0_countHomeCopy_4 : decode cX0_countHomeCopy 4 = .ok (.ifCond .eq 13, 3) := by decide +kernel
theorem dX0_countHomeCopy_7 : decode cX0_countHomeCopy 7 = .ok (.aload_n 0, 1) := by decide +kernel
theorem dX0_countHomeCopy_8 : decode cX0_countHomeCopy 8 = .ok (.getfield 15, 3) := by decide +kernel
theorem dX0_countHomeCopy_11 : decode cX0_countHomeCopy 11 = .ok (.iload_n 1, 1) := by decide +kernel
theorem dX0_countHomeCopy_12 : decode cX0_countHomeCopy 12 = .ok (.dup2, 1) := by decide +kernel
theorem dX0_countHomeCopy_13 : decode cX0_countHomeCopy 13 = .ok (.iaload, 1) := by decide +kernel
theorem dX0_countHomeCopy_14 : decode cX0_countHomeCopy 14 = .ok (.iconst 1, 1) := by decide +kernel
theorem dX0_countHomeCopy_15 : decode cX0_countHomeCopy 15 = .ok (.iadd, 1) := by decide +kernel
theorem dX0_countHomeCopy_16 : decode cX0_countHomeCopy 16 = .ok (.iastore, 1) := by decide +kernel
theorem dX0_countHomeCopy_17 : decode cX0_countHomeCopy 17 = .ok (.return_, 1) := by decide +kernel
theorem dX0_beginQuarter_0 : decode cX0_beginQuarter 0 = .ok (.iconst 0, 1) := by decide +kernel
theorem dX0_beginQuarter_1 : decode cX0_beginQuarter 1 = .ok (.istore_n 1, 1) := by decide +kernel
theorem dX0_beginQuarter_2 : decode cX0_beginQuarter 2 = .ok (.iload_n 1, 1) := by decide +kernel
theorem dX0_beginQuarter_3 : decode cX0_beginQuarter 3 = .ok (.aload_n 0, 1) := by decide +kernel
theorem dX0_beginQuarter_4 : decode cX0_beginQuarter 4 = .ok (.getfield 18, 3) := by decide +kernel
theorem dX0_beginQuarter_7 : decode cX0_beginQuarter 7 = .ok (.arraylength, 1) := by decide +kernel
theorem dX0_beginQuarter_8 : decode cX0_beginQuarter 8 = .ok (.if_icmp .ge 16, 3) := by decide +kernel
theorem dX0_beginQuarter_11 : decode cX0_beginQuarter 11 = .ok (.aload_n 0, 1) := by decide +kernel
theorem dX0_beginQuarter_12 : decode cX0_beginQuarter 12 = .ok (.getfield 18, 3) := by decide +kernel
theorem dX0_beginQuarter_15 : decode cX0_beginQuarter 15 = .ok (.iload_n 1, 1) := by decide +kernel
theorem dX0_beginQuarter_16 : decode cX0_beginQuarter 16 = .ok (.iconst 0, 1) := by decide +kernel
theorem dX0_beginQuarter_17 : decode cX0_beginQuarter 17 = .ok (.iastore, 1) := by decide +kernel
theorem dX0_beginQuarter_18 : decode cX0_beginQuarter 18 = .ok (.iinc 1 1, 3) := by decide +kernel
theorem dX0_beginQuarter_21 : decode cX0_beginQuarter 21 = .ok (.goto (-19), 3) := by decide +kernel
theorem dX0_beginQuarter_24 : decode cX0_beginQuarter 24 = .ok (.return_, 1) := by decide +kernel
set_option maxRecDepth 20000 in
theorem ggX0_freeLoansOf_X5_isHouse : GoodIn wsX0_freeLoansOf wsX5_isHouse := goodIn_r _ [4] (by decide +kernel) (by decide +kernel)
set_option maxRecDepth 20000 in
theorem gX0_freeLoansOf_X5_isHouse_n21 : GoodIn wsX0_freeLoansOf (wsX5_isHouse) := ggX0_freeLoansOf_X5_isHouse
theorem dX0_freeLoansOf_0 : decode cX0_freeLoansOf 0 = .ok (.iload_n 1, 1) := by decide +kernel
theorem dX0_freeLoansOf_1 : decode cX0_freeLoansOf 1 = .ok (.invokestatic 21, 3) := by decide +kernel
theorem dX0_freeLoansOf_4 : decode cX0_freeLoansOf 4 = .ok (.ifCond .eq 12, 3) := by decide +kernel
theorem dX0_freeLoansOf_7 : decode cX0_freeLoansOf 7 = .ok (.aload_n 0, 1) := by decide +kernel
theorem dX0_freeLoansOf_8 : decode cX0_freeLoansOf 8 = .ok (.getfield 18, 3) := by decide +kernel
theorem dX0_freeLoansOf_11 : decode cX0_freeLoansOf 11 = .ok (.iload_n 1, 1) := by decide +kernel
theorem dX0_freeLoansOf_12 : decode cX0_freeLoansOf 12 = .ok (.iaload, 1) := by decide +kernel
theorem dX0_freeLoansOf_13 : decode cX0_freeLoansOf 13 = .ok (.goto 4, 3) := by decide +kernel
theorem dX0_freeLoansOf_16 : decode cX0_freeLoansOf 16 = .ok (.iconst 0, 1) := by decide +kernel
theorem dX0_freeLoansOf_17 : decode cX0_freeLoansOf 17 = .ok (.ireturn, 1) := by decide +kernel
set_option maxRecDepth 20000 in
theorem ggX0_charge_X5_isHouse : GoodIn wsX0_charge wsX5_isHouse := goodIn_r _ [4] (by decide +kernel) (by decide +kernel)
set_option maxRecDepth 20000 in
theorem gX0_charge_X5_isHouse_n21 : GoodIn wsX0_charge (wsX5_isHouse) := ggX0_charge_X5_isHouse
theorem dX0_charge_0 : decode cX0_charge 0 = .ok (.iload_n 1, 1) := by decide +kernel
theorem dX0_charge_1 : decode cX0_charge 1 = .ok (.invokestatic 21, 3) := by decide +kernel
theorem dX0_charge_4 : decode cX0_charge 4 = .ok (.ifCond .eq 25, 3) := by decide +kernel
theorem dX0_charge_7 : decode cX0_charge 7 = .ok (.iload_n 2, 1) := by decide +kernel
theorem dX0_charge_8 : decode cX0_charge 8 = .ok (.invokestatic 21, 3) := by decide +kernel
theorem dX0_charge_11 : decode cX0_charge 11 = .ok (.ifCond .eq 18, 3) := by decide +kernel
theorem dX0_charge_14 : decode cX0_charge 14 = .ok (.aload_n 0, 1) := by decide +kernel
theorem dX0_charge_15 : decode cX0_charge 15 = .ok (.getfield 9, 3) := by decide +kernel
theorem dX0_charge_18 : decode cX0_charge 18 = .ok (.iload_n 1, 1) := by decide +kernel
theorem dX0_charge_19 : decode cX0_charge 19 = .ok (.bipush 6, 2) := by decide +kernel
theorem dX0_charge_21 : decode cX0_charge 21 = .ok (.imul, 1) := by decide +kernel
theorem dX0_charge_22 : decode cX0_charge 22 = .ok (.iload_n 2, 1) := by decide +kernel
theorem dX0_charge_23 : decode cX0_charge 23 = .ok (.iadd, 1) := by decide +kernel
theorem dX0_charge_24 : decode cX0_charge 24 = .ok (.dup2, 1) := by decide +kernel
theorem dX0_charge_25 : decode cX0_charge 25 = .ok (.iaload, 1) := by decide +kernel
theorem dX0_charge_26 : decode cX0_charge 26 = .ok (.iload_n 3, 1) := by decide +kernel
theorem dX0_charge_27 : decode cX0_charge 27 = .ok (.iadd, 1) := by decide +kernel
theorem dX0_charge_28 : decode cX0_charge 28 = .ok (.iastore, 1) := by decide +kernel
theorem dX0_charge_29 : decode cX0_charge 29 = .ok (.return_, 1) := by decide +kernel
set_option maxRecDepth 20000 in
theorem ggX0_chargeLoan_X5_isHouse : GoodIn wsX0_chargeLoan wsX5_isHouse := goodIn_r _ [5] (by decide +kernel) (by decide +kernel)
set_option maxRecDepth 20000 in
theorem gX0_chargeLoan_X5_isHouse_n21 : GoodIn wsX0_chargeLoan (wsX5_isHouse) := ggX0_chargeLoan_X5_isHouse
set_option maxRecDepth 20000 in
theorem ggX0_chargeLoan_X0_charge : GoodIn wsX0_chargeLoan wsX0_charge := goodIn_r _ [10, 11, 3, 4, 5, 12, 13, 14] (by decide +kernel) (by decide +kernel)
set_option maxRecDepth 20000 in
theorem gX0_chargeLoan_X0_charge : GoodIn wsX0_chargeLoan (wsV RX0 25 RX0 yX0_charge wsX0_charge) := goodIn_app (goodIn_of _ (by decide +kernel)) ggX0_chargeLoan_X0_charge
theorem dX0_chargeLoan_0 : decode cX0_chargeLoan 0 = .ok (.iload_n 1, 1) := by decide +kernel
theorem dX0_chargeLoan_1 : decode cX0_chargeLoan 1 = .ok (.invokestatic 21, 3) := by decide +kernel
theorem dX0_chargeLoan_4 : decode cX0_chargeLoan 4 = .ok (.ifCond .ne 4, 3) := by decide +kernel
theorem dX0_chargeLoan_7 : decode cX0_chargeLoan 7 = .ok (.return_, 1) := by decide +kernel
theorem dX0_chargeLoan_8 : decode cX0_chargeLoan 8 = .ok (.aload_n 0, 1) := by decide +kernel
theorem dX0_chargeLoan_9 : decode cX0_chargeLoan 9 = .ok (.getfield 15, 3) := by decide +kernel
theorem dX0_chargeLoan_12 : decode cX0_chargeLoan 12 = .ok (.iload_n 1, 1) := by decide +kernel
theorem dX0_chargeLoan_13 : decode cX0_chargeLoan 13 = .ok (.iaload, 1) := by decide +kernel
theorem dX0_chargeLoan_14 : decode cX0_chargeLoan 14 = .ok (.iconst 2, 1) := by decide +kernel
theorem dX0_chargeLoan_15 : decode cX0_chargeLoan 15 = .ok (.if_icmp .gt 26, 3) := by decide +kernel
theorem dX0_chargeLoan_18 : decode cX0_chargeLoan 18 = .ok (.aload_n 0, 1) := by decide +kernel
theorem dX0_chargeLoan_19 : decode cX0_chargeLoan 19 = .ok (.getfield 18, 3) := by decide +kernel
theorem dX0_chargeLoan_22 : decode cX0_chargeLoan 22 = .ok (.iload_n 1, 1) := by decide +kernel
theorem dX0_chargeLoan_23 : decode cX0_chargeLoan 23 = .ok (.iaload, 1) := by decide +kernel
theorem dX0_chargeLoan_24 : decode cX0_chargeLoan 24 = .ok (.iconst 2, 1) := by decide +kernel
theorem dX0_chargeLoan_25 : decode cX0_chargeLoan 25 = .ok (.if_icmp .ge 16, 3) := by decide +kernel
theorem dX0_chargeLoan_28 : decode cX0_chargeLoan 28 = .ok (.aload_n 0, 1) := by decide +kernel
theorem dX0_chargeLoan_29 : decode cX0_chargeLoan 29 = .ok (.getfield 18, 3) := by decide +kernel
theorem dX0_chargeLoan_32 : decode cX0_chargeLoan 32 = .ok (.iload_n 1, 1) := by decide +kernel
theorem dX0_chargeLoan_33 : decode cX0_chargeLoan 33 = .ok (.dup2, 1) := by decide +kernel
theorem dX0_chargeLoan_34 : decode cX0_chargeLoan 34 = .ok (.iaload, 1) := by decide +kernel
theorem dX0_chargeLoan_35 : decode cX0_chargeLoan 35 = .ok (.iconst 1, 1) := by decide +kernel
theorem dX0_chargeLoan_36 : decode cX0_chargeLoan 36 = .ok (.iadd, 1) := by decide +kernel
theorem dX0_chargeLoan_37 : decode cX0_chargeLoan 37 = .ok (.iastore, 1) := by decide +kernel
theorem dX0_chargeLoan_38 : decode cX0_chargeLoan 38 = .ok (.goto 11, 3) := by decide +kernel
theorem dX0_chargeLoan_41 : decode cX0_chargeLoan 41 = .ok (.aload_n 0, 1) := by decide +kernel
theorem dX0_chargeLoan_42 : decode cX0_chargeLoan 42 = .ok (.iload_n 1, 1) := by decide +kernel
theorem dX0_chargeLoan_43 : decode cX0_chargeLoan 43 = .ok (.iload_n 2, 1) := by decide +kernel
theorem dX0_chargeLoan_44 : decode cX0_chargeLoan 44 = .ok (.bipush 6, 2) := by decide +kernel
theorem dX0_chargeLoan_46 : decode cX0_chargeLoan 46 = .ok (.invokevirtual 25, 3) := by decide +kernel
theorem dX0_chargeLoan_49 : decode cX0_chargeLoan 49 = .ok (.return_, 1) := by decide +kernel
set_option maxRecDepth 20000 in
theorem ggX0_balance_X5_isHouse : GoodIn wsX0_balance wsX5_isHouse := goodIn_r _ [4] (by decide +kernel) (by decide +kernel)
set_option maxRecDepth 20000 in
theorem gX0_balance_X5_isHouse_n21 : GoodIn wsX0_balance (wsX5_isHouse) := ggX0_balance_X5_isHouse
theorem dX0_balance_0 : decode cX0_balance 0 = .ok (.iload_n 1, 1) := by decide +kernel
theorem dX0_balance_1 : decode cX0_balance 1 = .ok (.invokestatic 21, 3) := by decide +kernel
theorem dX0_balance_4 : decode cX0_balance 4 = .ok (.ifCond .eq 10, 3) := by decide +kernel
theorem dX0_balance_7 : decode cX0_balance 7 = .ok (.iload_n 2, 1) := by decide +kernel
theorem dX0_balance_8 : decode cX0_balance 8 = .ok (.invokestatic 21, 3) := by decide +kernel
theorem dX0_balance_11 : decode cX0_balance 11 = .ok (.ifCond .ne 5, 3) := by decide +kernel
theorem dX0_balance_14 : decode cX0_balance 14 = .ok (.iconst 0, 1) := by decide +kernel
theorem dX0_balance_15 : decode cX0_balance 15 = .ok (.ireturn, 1) := by decide +kernel
theorem dX0_balance_16 : decode cX0_balance 16 = .ok (.aload_n 0, 1) := by decide +kernel
theorem dX0_balance_17 : decode cX0_balance 17 = .ok (.getfield 9, 3) := by decide +kernel
theorem dX0_balance_20 : decode cX0_balance 20 = .ok (.iload_n 1, 1) := by decide +kernel
theorem dX0_balance_21 : decode cX0_balance 21 = .ok (.bipush 6, 2) := by decide +kernel
theorem dX0_balance_23 : decode cX0_balance 23 = .ok (.imul, 1) := by decide +kernel
theorem dX0_balance_24 : decode cX0_balance 24 = .ok (.iload_n 2, 1) := by decide +kernel
theorem dX0_balance_25 : decode cX0_balance 25 = .ok (.iadd, 1) := by decide +kernel
theorem dX0_balance_26 : decode cX0_balance 26 = .ok (.iaload, 1) := by decide +kernel
theorem dX0_balance_27 : decode cX0_balance 27 = .ok (.aload_n 0, 1) := by decide +kernel
theorem dX0_balance_28 : decode cX0_balance 28 = .ok (.getfield 9, 3) := by decide +kernel
theorem dX0_balance_31 : decode cX0_balance 31 = .ok (.iload_n 2, 1) := by decide +kernel
theorem dX0_balance_32 : decode cX0_balance 32 = .ok (.bipush 6, 2) := by decide +kernel
theorem dX0_balance_34 : decode cX0_balance 34 = .ok (.imul, 1) := by decide +kernel
theorem dX0_balance_35 : decode cX0_balance 35 = .ok (.iload_n 1, 1) := by decide +kernel
theorem dX0_balance_36 : decode cX0_balance 36 = .ok (.iadd, 1) := by decide +kernel
theorem dX0_balance_37 : decode cX0_balance 37 = .ok (.iaload, 1) := by decide +kernel
theorem dX0_balance_38 : decode cX0_balance 38 = .ok (.isub, 1) := by decide +kernel
theorem dX0_balance_39 : decode cX0_balance 39 = .ok (.ireturn, 1) := by decide +kernel
set_option maxRecDepth 20000 in
theorem ggX0_clearDebts_X0_balance : GoodIn wsX0_clearDebts wsX0_balance := goodIn_r _ [6, 1, 7, 8, 9, 10, 11, 12] (by decide +kernel) (by decide +kernel)
set_option maxRecDepth 20000 in
theorem gX0_clearDebts_X0_balance : GoodIn wsX0_clearDebts (wsV RX0 29 RX0 yX0_balance wsX0_balance) := goodIn_app (goodIn_of _ (by decide +kernel)) ggX0_clearDebts_X0_balance
theorem dX0_clearDebts_0 : decode cX0_clearDebts 0 = .ok (.iconst 0, 1) := by decide +kernel
theorem dX0_clearDebts_1 : decode cX0_clearDebts 1 = .ok (.istore_n 1, 1) := by decide +kernel
theorem dX0_clearDebts_2 : decode cX0_clearDebts 2 = .ok (.iconst 0, 1) := by decide +kernel
theorem dX0_clearDebts_3 : decode cX0_clearDebts 3 = .ok (.istore_n 2, 1) := by decide +kernel
theorem dX0_clearDebts_4 : decode cX0_clearDebts 4 = .ok (.iload_n 2, 1) := by decide +kernel
theorem dX0_clearDebts_5 : decode cX0_clearDebts 5 = .ok (.bipush 6, 2) := by decide +kernel
theorem dX0_clearDebts_7 : decode cX0_clearDebts 7 = .ok (.if_icmp .ge 37, 3) := by decide +kernel
theorem dX0_clearDebts_10 : decode cX0_clearDebts 10 = .ok (.iload_n 2, 1) := by decide +kernel
theorem dX0_clearDebts_11 : decode cX0_clearDebts 11 = .ok (.iconst 1, 1) := by decide +kernel
theorem dX0_clearDebts_12 : decode cX0_clearDebts 12 = .ok (.iadd, 1) := by decide +kernel
theorem dX0_clearDebts_13 : decode cX0_clearDebts 13 = .ok (.istore_n 3, 1) := by decide +kernel
theorem dX0_clearDebts_14 : decode cX0_clearDebts 14 = .ok (.iload_n 3, 1) := by decide +kernel
theorem dX0_clearDebts_15 : decode cX0_clearDebts 15 = .ok (.bipush 6, 2) := by decide +kernel
theorem dX0_clearDebts_17 : decode cX0_clearDebts 17 = .ok (.if_icmp .ge 21, 3) := by decide +kernel
theorem dX0_clearDebts_20 : decode cX0_clearDebts 20 = .ok (.aload_n 0, 1) := by decide +kernel
theorem dX0_clearDebts_21 : decode cX0_clearDebts 21 = .ok (.iload_n 2, 1) := by decide +kernel
theorem dX0_clearDebts_22 : decode cX0_clearDebts 22 = .ok (.iload_n 3, 1) := by decide +kernel
theorem dX0_clearDebts_23 : decode cX0_clearDebts 23 = .ok (.invokevirtual 29, 3) := by decide +kernel
theorem dX0_clearDebts_26 : decode cX0_clearDebts 26 = .ok (.ifCond .eq 6, 3) := by decide +kernel
theorem dX0_clearDebts_29 : decode cX0_clearDebts 29 = .ok (.iinc 1 1, 3) := by decide +kernel
theorem dX0_clearDebts_32 : decode cX0_clearDebts 32 = .ok (.iinc 3 1, 3) := by decide +kernel
theorem dX0_clearDebts_35 : decode cX0_clearDebts 35 = .ok (.goto (-21), 3) := by decide +kernel
theorem dX0_clearDebts_38 : decode cX0_clearDebts 38 = .ok (.iinc 2 1, 3) := by decide +kernel
theorem dX0_clearDebts_41 : decode cX0_clearDebts 41 = .ok (.goto (-37), 3) := by decide +kernel
theorem dX0_clearDebts_44 : decode cX0_clearDebts 44 = .ok (.iconst 0, 1) := by decide +kernel
theorem dX0_clearDebts_45 : decode cX0_clearDebts 45 = .ok (.istore_n 2, 1) := by decide +kernel
theorem dX0_clearDebts_46 : decode cX0_clearDebts 46 = .ok (.iload_n 2, 1) := by decide +kernel
theorem dX0_clearDebts_47 : decode cX0_clearDebts 47 = .ok (.aload_n 0, 1) := by decide +kernel
theorem dX0_clearDebts_48 : decode cX0_clearDebts 48 = .ok (.getfield 9, 3) := by decide +kernel
theorem dX0_clearDebts_51 : decode cX0_clearDebts 51 = .ok (.arraylength, 1) := by decide +kernel
theorem dX0_clearDebts_52 : decode cX0_clearDebts 52 = .ok (.if_icmp .ge 16, 3) := by decide +kernel
theorem dX0_clearDebts_55 : decode cX0_clearDebts 55 = .ok (.aload_n 0, 1) := by decide +kernel
theorem dX0_clearDebts_56 : decode cX0_clearDebts 56 = .ok (.getfield 9, 3) := by decide +kernel
theorem dX0_clearDebts_59 : decode cX0_clearDebts 59 = .ok (.iload_n 2, 1) := by decide +kernel
theorem dX0_clearDebts_60 : decode cX0_clearDebts 60 = .ok (.iconst 0, 1) := by decide +kernel
theorem dX0_clearDebts_61 : decode cX0_clearDebts 61 = .ok (.iastore, 1) := by decide +kernel
theorem dX0_clearDebts_62 : decode cX0_clearDebts 62 = .ok (.iinc 2 1, 3) := by decide +kernel
theorem dX0_clearDebts_65 : decode cX0_clearDebts 65 = .ok (.goto (-19), 3) := by decide +kernel
theorem dX0_clearDebts_68 : decode cX0_clearDebts 68 = .ok (.iload_n 1, 1) := by decide +kernel
theorem dX0_clearDebts_69 : decode cX0_clearDebts 69 = .ok (.ireturn, 1) := by decide +kernel
theorem dX1_init_0 : decode cX1_init 0 = .ok (.aload_n 0, 1) := by decide +kernel
theorem dX1_init_1 : decode cX1_init 1 = .ok (.invokespecial 3, 3) := by decide +kernel
theorem dX1_init_4 : decode cX1_init 4 = .ok (.aload_n 0, 1) := by decide +kernel
theorem dX1_init_5 : decode cX1_init 5 = .ok (.iload_n 1, 1) := by decide +kernel
theorem dX1_init_6 : decode cX1_init 6 = .ok (.putfield 9, 3) := by decide +kernel
theorem dX1_init_9 : decode cX1_init 9 = .ok (.aload_n 0, 1) := by decide +kernel
theorem dX1_init_10 : decode cX1_init 10 = .ok (.iload_n 2, 1) := by decide +kernel
theorem dX1_init_11 : decode cX1_init 11 = .ok (.putfield 15, 3) := by decide +kernel
theorem dX1_init_14 : decode cX1_init 14 = .ok (.aload_n 0, 1) := by decide +kernel
theorem dX1_init_15 : decode cX1_init 15 = .ok (.iload_n 3, 1) := by decide +kernel
theorem dX1_init_16 : decode cX1_init 16 = .ok (.putfield 18, 3) := by decide +kernel
theorem dX1_init_19 : decode cX1_init 19 = .ok (.aload_n 0, 1) := by decide +kernel
theorem dX1_init_20 : decode cX1_init 20 = .ok (.iload_n 2, 1) := by decide +kernel
theorem dX1_init_21 : decode cX1_init 21 = .ok (.putfield 21, 3) := by decide +kernel
theorem dX1_init_24 : decode cX1_init 24 = .ok (.aload_n 0, 1) := by decide +kernel
theorem dX1_init_25 : decode cX1_init 25 = .ok (.iconst 0, 1) := by decide +kernel
theorem dX1_init_26 : decode cX1_init 26 = .ok (.putfield 24, 3) := by decide +kernel
theorem dX1_init_29 : decode cX1_init 29 = .ok (.aload_n 0, 1) := by decide +kernel
theorem dX1_init_30 : decode cX1_init 30 = .ok (.iconst (-1), 1) := by decide +kernel
theorem dX1_init_31 : decode cX1_init 31 = .ok (.putfield 28, 3) := by decide +kernel
theorem dX1_init_34 : decode cX1_init 34 = .ok (.aload_n 0, 1) := by decide +kernel
theorem dX1_init_35 : decode cX1_init 35 = .ok (.iconst (-1), 1) := by decide +kernel
theorem dX1_init_36 : decode cX1_init 36 = .ok (.putfield 31, 3) := by decide +kernel
theorem dX1_init_39 : decode cX1_init 39 = .ok (.aload_n 0, 1) := by decide +kernel
theorem dX1_init_40 : decode cX1_init 40 = .ok (.iconst 0, 1) := by decide +kernel
theorem dX1_init_41 : decode cX1_init 41 = .ok (.putfield 34, 3) := by decide +kernel
theorem dX1_init_44 : decode cX1_init 44 = .ok (.return_, 1) := by decide +kernel
theorem dX1_isAtHome_0 : decode cX1_isAtHome 0 = .ok (.aload_n 0, 1) := by decide +kernel
theorem dX1_isAtHome_1 : decode cX1_isAtHome 1 = .ok (.getfield 21, 3) := by decide +kernel
theorem dX1_isAtHome_4 : decode cX1_isAtHome 4 = .ok (.aload_n 0, 1) := by decide +kernel
theorem dX1_isAtHome_5 : decode cX1_isAtHome 5 = .ok (.getfield 15, 3) := by decide +kernel
theorem dX1_isAtHome_8 : decode cX1_isAtHome 8 = .ok (.if_icmp .ne 14, 3) := by decide +kernel
theorem dX1_isAtHome_11 : decode cX1_isAtHome 11 = .ok (.aload_n 0, 1) := by decide +kernel
theorem dX1_isAtHome_12 : decode cX1_isAtHome 12 = .ok (.getfield 24, 3) := by decide +kernel
theorem dX1_isAtHome_15 : decode cX1_isAtHome 15 = .ok (.ifCond .ne 7, 3) := by decide +kernel
theorem dX1_isAtHome_18 : decode cX1_isAtHome 18 = .ok (.iconst 1, 1) := by decide +kernel
theorem dX1_isAtHome_19 : decode cX1_isAtHome 19 = .ok (.goto 4, 3) := by decide +kernel
theorem dX1_isAtHome_22 : decode cX1_isAtHome 22 = .ok (.iconst 0, 1) := by decide +kernel
theorem dX1_isAtHome_23 : decode cX1_isAtHome 23 = .ok (.ireturn, 1) := by decide +kernel
theorem dX1_isHarmed_0 : decode cX1_isHarmed 0 = .ok (.aload_n 0, 1) := by decide +kernel
theorem dX1_isHarmed_1 : decode cX1_isHarmed 1 = .ok (.getfield 31, 3) := by decide +kernel
theorem dX1_isHarmed_4 : decode cX1_isHarmed 4 = .ok (.iconst (-1), 1) := by decide +kernel
theorem dX1_isHarmed_5 : decode cX1_isHarmed 5 = .ok (.if_icmp .eq 7, 3) := by decide +kernel
theorem dX1_isHarmed_8 : decode cX1_isHarmed 8 = .ok (.iconst 1, 1) := by decide +kernel
theorem dX1_isHarmed_9 : decode cX1_isHarmed 9 = .ok (.goto 4, 3) := by decide +kernel
theorem dX1_isHarmed_12 : decode cX1_isHarmed 12 = .ok (.iconst 0, 1) := by decide +kernel
theorem dX1_isHarmed_13 : decode cX1_isHarmed 13 = .ok (.ireturn, 1) := by decide +kernel
set_option maxRecDepth 20000 in
theorem ggX1_canBeSent_X1_isAtHome : GoodIn wsX1_canBeSent wsX1_isAtHome := goodIn_r _ [6, 7, 8, 9, 10, 11, 12, 13, 14, 15, 16, 17] (by decide +kernel) (by decide +kernel)
set_option maxRecDepth 20000 in
theorem gX1_canBeSent_X1_isAtHome : GoodIn wsX1_canBeSent (wsV RX1 37 RX1 yX1_isAtHome wsX1_isAtHome) := goodIn_app (goodIn_of _ (by decide +kernel)) ggX1_canBeSent_X1_isAtHome
theorem dX1_canBeSent_0 : decode cX1_canBeSent 0 = .ok (.aload_n 0, 1) := by decide +kernel
theorem dX1_canBeSent_1 : decode cX1_canBeSent 1 = .ok (.invokevirtual 37, 3) := by decide +kernel
theorem dX1_canBeSent_4 : decode cX1_canBeSent 4 = .ok (.ifCond .eq 14, 3) := by decide +kernel
theorem dX1_canBeSent_7 : decode cX1_canBeSent 7 = .ok (.aload_n 0, 1) := by decide +kernel
theorem dX1_canBeSent_8 : decode cX1_canBeSent 8 = .ok (.getfield 34, 3) := by decide +kernel
theorem dX1_canBeSent_11 : decode cX1_canBeSent 11 = .ok (.ifCond .ne 7, 3) := by decide +kernel
theorem dX1_canBeSent_14 : decode cX1_canBeSent 14 = .ok (.iconst 1, 1) := by decide +kernel
theorem dX1_canBeSent_15 : decode cX1_canBeSent 15 = .ok (.goto 4, 3) := by decide +kernel
theorem dX1_canBeSent_18 : decode cX1_canBeSent 18 = .ok (.iconst 0, 1) := by decide +kernel
theorem dX1_canBeSent_19 : decode cX1_canBeSent 19 = .ok (.ireturn, 1) := by decide +kernel
theorem dX2_init_0 : decode cX2_init 0 = .ok (.aload_n 0, 1) := by decide +kernel
theorem dX2_init_1 : decode cX2_init 1 = .ok (.invokespecial 1, 3) := by decide +kernel
theorem dX2_init_4 : decode cX2_init 4 = .ok (.aload_n 0, 1) := by decide +kernel
theorem dX2_init_5 : decode cX2_init 5 = .ok (.iconst 0, 1) := by decide +kernel
theorem dX2_init_6 : decode cX2_init 6 = .ok (.iload_n 1, 1) := by decide +kernel
theorem dX2_init_7 : decode cX2_init 7 = .ok (.invokestatic 7, 3) := by decide +kernel
theorem dX2_init_10 : decode cX2_init 10 = .ok (.anewarray 13, 3) := by decide +kernel
theorem dX2_init_13 : decode cX2_init 13 = .ok (.putfield 15, 3) := by decide +kernel
theorem dX2_init_16 : decode cX2_init 16 = .ok (.aload_n 0, 1) := by decide +kernel
theorem dX2_init_17 : decode cX2_init 17 = .ok (.iconst 0, 1) := by decide +kernel
theorem dX2_init_18 : decode cX2_init 18 = .ok (.putfield 21, 3) := by decide +kernel
theorem dX2_init_21 : decode cX2_init 21 = .ok (.return_, 1) := by decide +kernel
theorem dX2_put_0 : decode cX2_put 0 = .ok (.aload_n 1, 1) := by decide +kernel
theorem dX2_put_1 : decode cX2_put 1 = .ok (.ifnull 22, 3) := by decide +kernel
theorem dX2_put_4 : decode cX2_put 4 = .ok (.aload_n 0, 1) := by decide +kernel
theorem dX2_put_5 : decode cX2_put 5 = .ok (.getfield 21, 3) := by decide +kernel
theorem dX2_put_8 : decode cX2_put 8 = .ok (.ifCond .lt 15, 3) := by decide +kernel
theorem dX2_put_11 : decode cX2_put 11 = .ok (.aload_n 0, 1) := by decide +kernel
theorem dX2_put_12 : decode cX2_put 12 = .ok (.getfield 21, 3) := by decide +kernel
theorem dX2_put_15 : decode cX2_put 15 = .ok (.aload_n 0, 1) := by decide +kernel
theorem dX2_put_16 : decode cX2_put 16 = .ok (.getfield 15, 3) := by decide +kernel
theorem dX2_put_19 : decode cX2_put 19 = .ok (.arraylength, 1) := by decide +kernel
theorem dX2_put_20 : decode cX2_put 20 = .ok (.if_icmp .lt 4, 3) := by decide +kernel
theorem dX2_put_23 : decode cX2_put 23 = .ok (.return_, 1) := by decide +kernel
theorem dX2_put_24 : decode cX2_put 24 = .ok (.aload_n 0, 1) := by decide +kernel
theorem dX2_put_25 : decode cX2_put 25 = .ok (.getfield 21, 3) := by decide +kernel
theorem dX2_put_28 : decode cX2_put 28 = .ok (.istore_n 2, 1) := by decide +kernel
theorem dX2_put_29 : decode cX2_put 29 = .ok (.iload_n 2, 1) := by decide +kernel
theorem dX2_put_30 : decode cX2_put 30 = .ok (.ifCond .le 43, 3) := by decide +kernel
theorem dX2_put_33 : decode cX2_put 33 = .ok (.aload_n 0, 1) := by decide +kernel
theorem dX2_put_34 : decode cX2_put 34 = .ok (.getfield 15, 3) := by decide +kernel
theorem dX2_put_37 : decode cX2_put 37 = .ok (.iload_n 2, 1) := by decide +kernel
theorem dX2_put_38 : decode cX2_put 38 = .ok (.iconst 1, 1) := by decide +kernel
theorem dX2_put_39 : decode cX2_put 39 = .ok (.isub, 1) := by decide +kernel
theorem dX2_put_40 : decode cX2_put 40 = .ok (.aaload, 1) := by decide +kernel
theorem dX2_put_41 : decode cX2_put 41 = .ok (.astore_n 3, 1) := by decide +kernel
theorem dX2_put_42 : decode cX2_put 42 = .ok (.aload_n 3, 1) := by decide +kernel
theorem dX2_put_43 : decode cX2_put 43 = .ok (.ifnull 30, 3) := by decide +kernel
theorem dX2_put_46 : decode cX2_put 46 = .ok (.aload_n 3, 1) := by decide +kernel
theorem dX2_put_47 : decode cX2_put 47 = .ok (.getfield 25, 3) := by decide +kernel
theorem dX2_put_50 : decode cX2_put 50 = .ok (.aload_n 1, 1) := by decide +kernel
theorem dX2_put_51 : decode cX2_put 51 = .ok (.getfield 25, 3) := by decide +kernel
theorem dX2_put_54 : decode cX2_put 54 = .ok (.if_icmp .gt 6, 3) := by decide +kernel
theorem dX2_put_57 : decode cX2_put 57 = .ok (.goto 16, 3) := by decide +kernel
theorem dX2_put_60 : decode cX2_put 60 = .ok (.aload_n 0, 1) := by decide +kernel
theorem dX2_put_61 : decode cX2_put 61 = .ok (.getfield 15, 3) := by decide +kernel
theorem dX2_put_64 : decode cX2_put 64 = .ok (.iload_n 2, 1) := by decide +kernel
theorem dX2_put_65 : decode cX2_put 65 = .ok (.aload_n 3, 1) := by decide +kernel
theorem dX2_put_66 : decode cX2_put 66 = .ok (.aastore, 1) := by decide +kernel
theorem dX2_put_67 : decode cX2_put 67 = .ok (.iinc 2 (-1), 3) := by decide +kernel
theorem dX2_put_70 : decode cX2_put 70 = .ok (.goto (-41), 3) := by decide +kernel
theorem dX2_put_73 : decode cX2_put 73 = .ok (.aload_n 0, 1) := by decide +kernel
theorem dX2_put_74 : decode cX2_put 74 = .ok (.getfield 15, 3) := by decide +kernel
theorem dX2_put_77 : decode cX2_put 77 = .ok (.iload_n 2, 1) := by decide +kernel
theorem dX2_put_78 : decode cX2_put 78 = .ok (.aload_n 1, 1) := by decide +kernel
theorem dX2_put_79 : decode cX2_put 79 = .ok (.aastore, 1) := by decide +kernel
theorem dX2_put_80 : decode cX2_put 80 = .ok (.aload_n 0, 1) := by decide +kernel
theorem dX2_put_81 : decode cX2_put 81 = .ok (.dup, 1) := by decide +kernel
theorem dX2_put_82 : decode cX2_put 82 = .ok (.getfield 21, 3) := by decide +kernel
theorem dX2_put_85 : decode cX2_put 85 = .ok (.iconst 1, 1) := by decide +kernel
theorem dX2_put_86 : decode cX2_put 86 = .ok (.iadd, 1) := by decide +kernel
theorem dX2_put_87 : decode cX2_put 87 = .ok (.putfield 21, 3) := by decide +kernel
theorem dX2_put_90 : decode cX2_put 90 = .ok (.return_, 1) := by decide +kernel
theorem dX2_takeArrived_0 : decode cX2_takeArrived 0 = .ok (.aload_n 0, 1) := by decide +kernel
theorem dX2_takeArrived_1 : decode cX2_takeArrived 1 = .ok (.getfield 21, 3) := by decide +kernel
theorem dX2_takeArrived_4 : decode cX2_takeArrived 4 = .ok (.iconst 1, 1) := by decide +kernel
theorem dX2_takeArrived_5 : decode cX2_takeArrived 5 = .ok (.if_icmp .lt 15, 3) := by decide +kernel
theorem dX2_takeArrived_8 : decode cX2_takeArrived 8 = .ok (.aload_n 0, 1) := by decide +kernel
theorem dX2_takeArrived_9 : decode cX2_takeArrived 9 = .ok (.getfield 21, 3) := by decide +kernel
theorem dX2_takeArrived_12 : decode cX2_takeArrived 12 = .ok (.aload_n 0, 1) := by decide +kernel
theorem dX2_takeArrived_13 : decode cX2_takeArrived 13 = .ok (.getfield 15, 3) := by decide +kernel
theorem dX2_takeArrived_16 : decode cX2_takeArrived 16 = .ok (.arraylength, 1) := by decide +kernel
theorem dX2_takeArrived_17 : decode cX2_takeArrived 17 = .ok (.if_icmp .le 5, 3) := by decide +kernel
theorem dX2_takeArrived_20 : decode cX2_takeArrived 20 = .ok (.aconst_null, 1) := by decide +kernel
theorem dX2_takeArrived_21 : decode cX2_takeArrived 21 = .ok (.areturn, 1) := by decide +kernel
theorem dX2_takeArrived_22 : decode cX2_takeArrived 22 = .ok (.aload_n 0, 1) := by decide +kernel
theorem dX2_takeArrived_23 : decode cX2_takeArrived 23 = .ok (.getfield 15, 3) := by decide +kernel
theorem dX2_takeArrived_26 : decode cX2_takeArrived 26 = .ok (.iconst 0, 1) := by decide +kernel
theorem dX2_takeArrived_27 : decode cX2_takeArrived 27 = .ok (.aaload, 1) := by decide +kernel
theorem dX2_takeArrived_28 : decode cX2_takeArrived 28 = .ok (.astore_n 2, 1) := by decide +kernel
theorem dX2_takeArrived_29 : decode cX2_takeArrived 29 = .ok (.aload_n 2, 1) := by decide +kernel
theorem dX2_takeArrived_30 : decode cX2_takeArrived 30 = .ok (.ifnull 11, 3) := by decide +kernel
theorem dX2_takeArrived_33 : decode cX2_takeArrived 33 = .ok (.aload_n 2, 1) := by decide +kernel
theorem dX2_takeArrived_34 : decode cX2_takeArrived 34 = .ok (.getfield 25, 3) := by decide +kernel
theorem dX2_takeArrived_37 : decode cX2_takeArrived 37 = .ok (.iload_n 1, 1) := by decide +kernel
theorem dX2_takeArrived_38 : decode cX2_takeArrived 38 = .ok (.if_icmp .le 5, 3) := by decide +kernel
theorem dX2_takeArrived_41 : decode cX2_takeArrived 41 = .ok (.aconst_null, 1) := by decide +kernel
theorem dX2_takeArrived_42 : decode cX2_takeArrived 42 = .ok (.areturn, 1) := by decide +kernel
theorem dX2_takeArrived_43 : decode cX2_takeArrived 43 = .ok (.aload_n 0, 1) := by decide +kernel
theorem dX2_takeArrived_44 : decode cX2_takeArrived 44 = .ok (.dup, 1) := by decide +kernel
theorem dX2_takeArrived_45 : decode cX2_takeArrived 45 = .ok (.getfield 21, 3) := by decide +kernel
theorem dX2_takeArrived_48 : decode cX2_takeArrived 48 = .ok (.iconst 1, 1) := by decide +kernel
theorem dX2_takeArrived_49 : decode cX2_takeArrived 49 = .ok (.isub, 1) := by decide +kernel
theorem dX2_takeArrived_50 : decode cX2_takeArrived 50 = .ok (.putfield 21, 3) := by decide +kernel
theorem dX2_takeArrived_53 : decode cX2_takeArrived 53 = .ok (.iconst 0, 1) := by decide +kernel
theorem dX2_takeArrived_54 : decode cX2_takeArrived 54 = .ok (.istore_n 3, 1) := by decide +kernel
theorem dX2_takeArrived_55 : decode cX2_takeArrived 55 = .ok (.iload_n 3, 1) := by decide +kernel
theorem dX2_takeArrived_56 : decode cX2_takeArrived 56 = .ok (.aload_n 0, 1) := by decide +kernel
theorem dX2_takeArrived_57 : decode cX2_takeArrived 57 = .ok (.getfield 21, 3) := by decide +kernel
theorem dX2_takeArrived_60 : decode cX2_takeArrived 60 = .ok (.if_icmp .ge 23, 3) := by decide +kernel
theorem dX2_takeArrived_63 : decode cX2_takeArrived 63 = .ok (.aload_n 0, 1) := by decide +kernel
theorem dX2_takeArrived_64 : decode cX2_takeArrived 64 = .ok (.getfield 15, 3) := by decide +kernel
theorem dX2_takeArrived_67 : decode cX2_takeArrived 67 = .ok (.iload_n 3, 1) := by decide +kernel
theorem dX2_takeArrived_68 : decode cX2_takeArrived 68 = .ok (.aload_n 0, 1) := by decide +kernel
theorem dX2_takeArrived_69 : decode cX2_takeArrived 69 = .ok (.getfield 15, 3) := by decide +kernel
theorem dX2_takeArrived_72 : decode cX2_takeArrived 72 = .ok (.iload_n 3, 1) := by decide +kernel
theorem dX2_takeArrived_73 : decode cX2_takeArrived 73 = .ok (.iconst 1, 1) := by decide +kernel
theorem dX2_takeArrived_74 : decode cX2_takeArrived 74 = .ok (.iadd, 1) := by decide +kernel
theorem dX2_takeArrived_75 : decode cX2_takeArrived 75 = .ok (.aaload, 1) := by decide +kernel
theorem dX2_takeArrived_76 : decode cX2_takeArrived 76 = .ok (.aastore, 1) := by decide +kernel
theorem dX2_takeArrived_77 : decode cX2_takeArrived 77 = .ok (.iinc 3 1, 3) := by decide +kernel
theorem dX2_takeArrived_80 : decode cX2_takeArrived 80 = .ok (.goto (-25), 3) := by decide +kernel
theorem dX2_takeArrived_83 : decode cX2_takeArrived 83 = .ok (.aload_n 0, 1) := by decide +kernel
theorem dX2_takeArrived_84 : decode cX2_takeArrived 84 = .ok (.getfield 15, 3) := by decide +kernel
theorem dX2_takeArrived_87 : decode cX2_takeArrived 87 = .ok (.aload_n 0, 1) := by decide +kernel
theorem dX2_takeArrived_88 : decode cX2_takeArrived 88 = .ok (.getfield 21, 3) := by decide +kernel
theorem dX2_takeArrived_91 : decode cX2_takeArrived 91 = .ok (.aconst_null, 1) := by decide +kernel
theorem dX2_takeArrived_92 : decode cX2_takeArrived 92 = .ok (.aastore, 1) := by decide +kernel
theorem dX2_takeArrived_93 : decode cX2_takeArrived 93 = .ok (.aload_n 2, 1) := by decide +kernel
theorem dX2_takeArrived_94 : decode cX2_takeArrived 94 = .ok (.areturn, 1) := by decide +kernel
theorem dX3_init_0 : decode cX3_init 0 = .ok (.aload_n 0, 1) := by decide +kernel
theorem dX3_init_1 : decode cX3_init 1 = .ok (.invokespecial 3, 3) := by decide +kernel
theorem dX3_init_4 : decode cX3_init 4 = .ok (.aload_n 0, 1) := by decide +kernel
theorem dX3_init_5 : decode cX3_init 5 = .ok (.iload_n 1, 1) := by decide +kernel
theorem dX3_init_6 : decode cX3_init 6 = .ok (.putfield 9, 3) := by decide +kernel
theorem dX3_init_9 : decode cX3_init 9 = .ok (.aload_n 0, 1) := by decide +kernel
theorem dX3_init_10 : decode cX3_init 10 = .ok (.iload_n 2, 1) := by decide +kernel
theorem dX3_init_11 : decode cX3_init 11 = .ok (.putfield 15, 3) := by decide +kernel
theorem dX3_init_14 : decode cX3_init 14 = .ok (.aload_n 0, 1) := by decide +kernel
theorem dX3_init_15 : decode cX3_init 15 = .ok (.aconst_null, 1) := by decide +kernel
theorem dX3_init_16 : decode cX3_init 16 = .ok (.putfield 18, 3) := by decide +kernel
theorem dX3_init_19 : decode cX3_init 19 = .ok (.aload_n 0, 1) := by decide +kernel
theorem dX3_init_20 : decode cX3_init 20 = .ok (.iconst 0, 1) := by decide +kernel
theorem dX3_init_21 : decode cX3_init 21 = .ok (.putfield 22, 3) := by decide +kernel
theorem dX3_init_24 : decode cX3_init 24 = .ok (.aload_n 0, 1) := by decide +kernel
theorem dX3_init_25 : decode cX3_init 25 = .ok (.iconst 0, 1) := by decide +kernel
theorem dX3_init_26 : decode cX3_init 26 = .ok (.putfield 25, 3) := by decide +kernel
theorem dX3_init_29 : decode cX3_init 29 = .ok (.aload_n 0, 1) := by decide +kernel
theorem dX3_init_30 : decode cX3_init 30 = .ok (.iconst 0, 1) := by decide +kernel
theorem dX3_init_31 : decode cX3_init 31 = .ok (.putfield 28, 3) := by decide +kernel
theorem dX3_init_34 : decode cX3_init 34 = .ok (.aload_n 0, 1) := by decide +kernel
theorem dX3_init_35 : decode cX3_init 35 = .ok (.iconst 0, 1) := by decide +kernel
theorem dX3_init_36 : decode cX3_init 36 = .ok (.putfield 32, 3) := by decide +kernel
theorem dX3_init_39 : decode cX3_init 39 = .ok (.return_, 1) := by decide +kernel
theorem dX3_markAsked_0 : decode cX3_markAsked 0 = .ok (.aload_n 0, 1) := by decide +kernel
theorem dX3_markAsked_1 : decode cX3_markAsked 1 = .ok (.dup, 1) := by decide +kernel
theorem dX3_markAsked_2 : decode cX3_markAsked 2 = .ok (.getfield 32, 3) := by decide +kernel
theorem dX3_markAsked_5 : decode cX3_markAsked 5 = .ok (.iconst 1, 1) := by decide +kernel
theorem dX3_markAsked_6 : decode cX3_markAsked 6 = .ok (.iload_n 1, 1) := by decide +kernel
theorem dX3_markAsked_7 : decode cX3_markAsked 7 = .ok (.ishl, 1) := by decide +kernel
theorem dX3_markAsked_8 : decode cX3_markAsked 8 = .ok (.ior, 1) := by decide +kernel
theorem dX3_markAsked_9 : decode cX3_markAsked 9 = .ok (.putfield 32, 3) := by decide +kernel
theorem dX3_markAsked_12 : decode cX3_markAsked 12 = .ok (.return_, 1) := by decide +kernel
theorem dX3_mayAskFor_0 : decode cX3_mayAskFor 0 = .ok (.aload_n 0, 1) := by decide +kernel
theorem dX3_mayAskFor_1 : decode cX3_mayAskFor 1 = .ok (.getfield 32, 3) := by decide +kernel
theorem dX3_mayAskFor_4 : decode cX3_mayAskFor 4 = .ok (.aload_n 1, 1) := by decide +kernel
theorem dX3_mayAskFor_5 : decode cX3_mayAskFor 5 = .ok (.getfield 35, 3) := by decide +kernel
theorem dX3_mayAskFor_8 : decode cX3_mayAskFor 8 = .ok (.ishr, 1) := by decide +kernel
theorem dX3_mayAskFor_9 : decode cX3_mayAskFor 9 = .ok (.iconst 1, 1) := by decide +kernel
theorem dX3_mayAskFor_10 : decode cX3_mayAskFor 10 = .ok (.iand, 1) := by decide +kernel
theorem dX3_mayAskFor_11 : decode cX3_mayAskFor 11 = .ok (.iconst 1, 1) := by decide +kernel
theorem dX3_mayAskFor_12 : decode cX3_mayAskFor 12 = .ok (.if_icmp .ne 7, 3) := by decide +kernel
theorem dX3_mayAskFor_15 : decode cX3_mayAskFor 15 = .ok (.iconst 1, 1) := by decide +kernel
theorem dX3_mayAskFor_16 : decode cX3_mayAskFor 16 = .ok (.goto 4, 3) := by decide +kernel
theorem dX3_mayAskFor_19 : decode cX3_mayAskFor 19 = .ok (.iconst 0, 1) := by decide +kernel
theorem dX3_mayAskFor_20 : decode cX3_mayAskFor 20 = .ok (.istore_n 2, 1) := by decide +kernel
theorem dX3_mayAskFor_21 : decode cX3_mayAskFor 21 = .ok (.aload_n 1, 1) := by decide +kernel
theorem dX3_mayAskFor_22 : decode cX3_mayAskFor 22 = .ok (.getfield 40, 3) := by decide +kernel
theorem dX3_mayAskFor_25 : decode cX3_mayAskFor 25 = .ok (.aload_n 0, 1) := by decide +kernel
theorem dX3_mayAskFor_26 : decode cX3_mayAskFor 26 = .ok (.getfield 15, 3) := by decide +kernel
theorem dX3_mayAskFor_29 : decode cX3_mayAskFor 29 = .ok (.if_icmp .ne 30, 3) := by decide +kernel
theorem dX3_mayAskFor_32 : decode cX3_mayAskFor 32 = .ok (.aload_n 1, 1) := by decide +kernel
theorem dX3_mayAskFor_33 : decode cX3_mayAskFor 33 = .ok (.getfield 41, 3) := by decide +kernel
theorem dX3_mayAskFor_36 : decode cX3_mayAskFor 36 = .ok (.iconst 1, 1) := by decide +kernel
theorem dX3_mayAskFor_37 : decode cX3_mayAskFor 37 = .ok (.if_icmp .ne 22, 3) := by decide +kernel
theorem dX3_mayAskFor_40 : decode cX3_mayAskFor 40 = .ok (.aload_n 1, 1) := by decide +kernel
theorem dX3_mayAskFor_41 : decode cX3_mayAskFor 41 = .ok (.getfield 35, 3) := by decide +kernel
theorem dX3_mayAskFor_44 : decode cX3_mayAskFor 44 = .ok (.aload_n 0, 1) := by decide +kernel
theorem dX3_mayAskFor_45 : decode cX3_mayAskFor 45 = .ok (.getfield 9, 3) := by decide +kernel
theorem dX3_mayAskFor_48 : decode cX3_mayAskFor 48 = .ok (.if_icmp .eq 11, 3) := by decide +kernel
theorem dX3_mayAskFor_51 : decode cX3_mayAskFor 51 = .ok (.iload_n 2, 1) := by decide +kernel
theorem dX3_mayAskFor_52 : decode cX3_mayAskFor 52 = .ok (.ifCond .ne 7, 3) := by decide +kernel
theorem dX3_mayAskFor_55 : decode cX3_mayAskFor 55 = .ok (.iconst 1, 1) := by decide +kernel
theorem dX3_mayAskFor_56 : decode cX3_mayAskFor 56 = .ok (.goto 4, 3) := by decide +kernel
theorem dX3_mayAskFor_59 : decode cX3_mayAskFor 59 = .ok (.iconst 0, 1) := by decide +kernel
theorem dX3_mayAskFor_60 : decode cX3_mayAskFor 60 = .ok (.ireturn, 1) := by decide +kernel
theorem dX4_init_0 : decode cX4_init 0 = .ok (.aload_n 0, 1) := by decide +kernel
theorem dX4_init_1 : decode cX4_init 1 = .ok (.invokespecial 1, 3) := by decide +kernel
theorem dX4_init_4 : decode cX4_init 4 = .ok (.aload_n 0, 1) := by decide +kernel
theorem dX4_init_5 : decode cX4_init 5 = .ok (.iload_n 1, 1) := by decide +kernel
theorem dX4_init_6 : decode cX4_init 6 = .ok (.putfield 7, 3) := by decide +kernel
theorem dX4_init_9 : decode cX4_init 9 = .ok (.aload_n 0, 1) := by decide +kernel
theorem dX4_init_10 : decode cX4_init 10 = .ok (.iload_n 2, 1) := by decide +kernel
theorem dX4_init_11 : decode cX4_init 11 = .ok (.putfield 13, 3) := by decide +kernel
theorem dX4_init_14 : decode cX4_init 14 = .ok (.aload_n 0, 1) := by decide +kernel
theorem dX4_init_15 : decode cX4_init 15 = .ok (.aload_n 3, 1) := by decide +kernel
theorem dX4_init_16 : decode cX4_init 16 = .ok (.putfield 16, 3) := by decide +kernel
theorem dX4_init_19 : decode cX4_init 19 = .ok (.aload_n 0, 1) := by decide +kernel
theorem dX4_init_20 : decode cX4_init 20 = .ok (.aload 4, 2) := by decide +kernel
theorem dX4_init_22 : decode cX4_init 22 = .ok (.putfield 20, 3) := by decide +kernel
theorem dX4_init_25 : decode cX4_init 25 = .ok (.return_, 1) := by decide +kernel
set_option maxRecDepth 20000 in
theorem ggX5_init_X2_init : GoodIn wsX5_init wsX2_init := goodIn_r _ [21, 22, 2, 3, 23, 24, 25, 26, 27, 28, 29, 45, 46] (by decide +kernel) (by decide +kernel)
set_option maxRecDepth 20000 in
theorem gX5_init_X2_init : GoodIn wsX5_init (wsX2_init) := ggX5_init_X2_init
set_option maxRecDepth 20000 in
theorem ggX5_init_X0_init : GoodIn wsX5_init wsX0_init := goodIn_r _ [32, 33, 2, 3, 34, 35, 36, 37, 47, 48, 49] (by decide +kernel) (by decide +kernel)
set_option maxRecDepth 20000 in
theorem gX5_init_X0_init : GoodIn wsX5_init (wsX0_init) := ggX5_init_X0_init
theorem dX5_init_0 : decode cX5_init 0 = .ok (.aload_n 0, 1) := by decide +kernel
theorem dX5_init_1 : decode cX5_init 1 = .ok (.invokespecial 1, 3) := by decide +kernel
theorem dX5_init_4 : decode cX5_init 4 = .ok (.aload_n 0, 1) := by decide +kernel
theorem dX5_init_5 : decode cX5_init 5 = .ok (.bipush 20, 2) := by decide +kernel
theorem dX5_init_7 : decode cX5_init 7 = .ok (.anewarray 9, 3) := by decide +kernel
theorem dX5_init_10 : decode cX5_init 10 = .ok (.putfield 11, 3) := by decide +kernel
theorem dX5_init_13 : decode cX5_init 13 = .ok (.aload_n 0, 1) := by decide +kernel
theorem dX5_init_14 : decode cX5_init 14 = .ok (.bipush 40, 2) := by decide +kernel
theorem dX5_init_16 : decode cX5_init 16 = .ok (.anewarray 15, 3) := by decide +kernel
theorem dX5_init_19 : decode cX5_init 19 = .ok (.putfield 17, 3) := by decide +kernel
theorem dX5_init_22 : decode cX5_init 22 = .ok (.aload_n 0, 1) := by decide +kernel
theorem dX5_init_23 : decode cX5_init 23 = .ok (.new 21, 3) := by decide +kernel
theorem dX5_init_26 : decode cX5_init 26 = .ok (.dup, 1) := by decide +kernel
theorem dX5_init_27 : decode cX5_init 27 = .ok (.sipush 552, 3) := by decide +kernel
theorem dX5_init_30 : decode cX5_init 30 = .ok (.invokespecial 23, 3) := by decide +kernel
theorem dX5_init_33 : decode cX5_init 33 = .ok (.putfield 26, 3) := by decide +kernel
theorem dX5_init_36 : decode cX5_init 36 = .ok (.aload_n 0, 1) := by decide +kernel
theorem dX5_init_37 : decode cX5_init 37 = .ok (.new 30, 3) := by decide +kernel
theorem dX5_init_40 : decode cX5_init 40 = .ok (.dup, 1) := by decide +kernel
theorem dX5_init_41 : decode cX5_init 41 = .ok (.invokespecial 32, 3) := by decide +kernel
theorem dX5_init_44 : decode cX5_init 44 = .ok (.putfield 33, 3) := by decide +kernel
theorem dX5_init_47 : decode cX5_init 47 = .ok (.aload_n 0, 1) := by decide +kernel
theorem dX5_init_48 : decode cX5_init 48 = .ok (.iconst 0, 1) := by decide +kernel
theorem dX5_init_49 : decode cX5_init 49 = .ok (.putfield 37, 3) := by decide +kernel
theorem dX5_init_52 : decode cX5_init 52 = .ok (.aload_n 0, 1) := by decide +kernel
theorem dX5_init_53 : decode cX5_init 53 = .ok (.iconst 0, 1) := by decide +kernel
theorem dX5_init_54 : decode cX5_init 54 = .ok (.putfield 41, 3) := by decide +kernel
theorem dX5_init_57 : decode cX5_init 57 = .ok (.aload_n 0, 1) := by decide +kernel
theorem dX5_init_58 : decode cX5_init 58 = .ok (.iconst 0, 1) := by decide +kernel
theorem dX5_init_59 : decode cX5_init 59 = .ok (.putfield 44, 3) := by decide +kernel
theorem dX5_init_62 : decode cX5_init 62 = .ok (.return_, 1) := by decide +kernel
set_option maxRecDepth 20000 in
theorem ggX5_addCopy_X5_isHouse : GoodIn wsX5_addCopy wsX5_isHouse := goodIn_r _ [14] (by decide +kernel) (by decide +kernel)
set_option maxRecDepth 20000 in
theorem gX5_addCopy_X5_isHouse : GoodIn wsX5_addCopy (va_wsS RX5 47 yX5_isHouse wsX5_isHouse) := goodIn_app (goodIn_of _ (by decide +kernel)) ggX5_addCopy_X5_isHouse
set_option maxRecDepth 20000 in
theorem ggX5_addCopy_X5_isTitle : GoodIn wsX5_addCopy wsX5_isTitle := goodIn_r _ [17] (by decide +kernel) (by decide +kernel)
set_option maxRecDepth 20000 in
theorem gX5_addCopy_X5_isTitle : GoodIn wsX5_addCopy (va_wsS RX5 51 yX5_isTitle wsX5_isTitle) := goodIn_app (goodIn_of _ (by decide +kernel)) ggX5_addCopy_X5_isTitle
set_option maxRecDepth 20000 in
theorem ggX5_addCopy_X1_init : GoodIn wsX5_addCopy wsX1_init := goodIn_r _ [20, 21, 22, 23, 24, 25, 26, 27, 28, 29, 30, 31, 78, 79, 80, 81, 82, 83, 84, 85] (by decide +kernel) (by decide +kernel)
set_option maxRecDepth 20000 in
theorem gX5_addCopy_X1_init : GoodIn wsX5_addCopy (wsX1_init) := ggX5_addCopy_X1_init
set_option maxRecDepth 20000 in
theorem ggX5_addCopy_X0_countHomeCopy : GoodIn wsX5_addCopy wsX0_countHomeCopy := goodIn_r _ [36, 37, 12, 13, 14, 86, 87, 88] (by decide +kernel) (by decide +kernel)
set_option maxRecDepth 20000 in
theorem gX5_addCopy_X0_countHomeCopy : GoodIn wsX5_addCopy (wsV RX5 69 RX0 yX0_countHomeCopy wsX0_countHomeCopy) := goodIn_app (goodIn_of _ (by decide +kernel)) ggX5_addCopy_X0_countHomeCopy
set_option maxRecDepth 20000 in
theorem ggX5_addCopy_X5_sendNews : GoodIn wsX5_addCopy wsX5_sendNews := goodIn_r _ [41, 42, 43, 44, 13, 45, 46, 47, 48, 49, 50, 51, 52, 53, 54, 55, 56, 57, 58, 22, 23, 59, 60, 61, 62, 63, 64, 65, 66, 67, 68, 69, 70, 78, 79, 80, 81, 82, 83, 84, 85, 71, 72, 73, 74, 75, 76, 77, 89, 90, 91, 92, 93, 94] (by decide +kernel) (by decide +kernel)
set_option maxRecDepth 20000 in
theorem gX5_addCopy_X5_sendNews : GoodIn wsX5_addCopy (wsV RX5 72 RX5 yX5_sendNews wsX5_sendNews) := goodIn_app (goodIn_of _ (by decide +kernel)) ggX5_addCopy_X5_sendNews
theorem dX5_addCopy_0 : decode cX5_addCopy 0 = .ok (.iload_n 1, 1) := by decide +kernel
theorem dX5_addCopy_1 : decode cX5_addCopy 1 = .ok (.invokestatic 47, 3) := by decide +kernel
theorem dX5_addCopy_4 : decode cX5_addCopy 4 = .ok (.ifCond .eq 10, 3) := by decide +kernel
theorem dX5_addCopy_7 : decode cX5_addCopy 7 = .ok (.iload_n 2, 1) := by decide +kernel
theorem dX5_addCopy_8 : decode cX5_addCopy 8 = .ok (.invokestatic 51, 3) := by decide +kernel
theorem dX5_addCopy_11 : decode cX5_addCopy 11 = .ok (.ifCond .ne 13, 3) := by decide +kernel
theorem dX5_addCopy_14 : decode cX5_addCopy 14 = .ok (.new 54, 3) := by decide +kernel
theorem dX5_addCopy_17 : decode cX5_addCopy 17 = .ok (.dup, 1) := by decide +kernel
theorem dX5_addCopy_18 : decode cX5_addCopy 18 = .ok (.ldc 56, 2) := by decide +kernel
theorem dX5_addCopy_20 : decode cX5_addCopy 20 = .ok (.invokespecial 58, 3) := by decide +kernel
theorem dX5_addCopy_23 : decode cX5_addCopy 23 = .ok (.athrow, 1) := by decide +kernel
theorem dX5_addCopy_24 : decode cX5_addCopy 24 = .ok (.aload_n 0, 1) := by decide +kernel
theorem dX5_addCopy_25 : decode cX5_addCopy 25 = .ok (.getfield 37, 3) := by decide +kernel
theorem dX5_addCopy_28 : decode cX5_addCopy 28 = .ok (.istore_n 3, 1) := by decide +kernel
theorem dX5_addCopy_29 : decode cX5_addCopy 29 = .ok (.iload_n 3, 1) := by decide +kernel
theorem dX5_addCopy_30 : decode cX5_addCopy 30 = .ok (.ifCond .lt 12, 3) := by decide +kernel
theorem dX5_addCopy_33 : decode cX5_addCopy 33 = .ok (.iload_n 3, 1) := by decide +kernel
theorem dX5_addCopy_34 : decode cX5_addCopy 34 = .ok (.aload_n 0, 1) := by decide +kernel
theorem dX5_addCopy_35 : decode cX5_addCopy 35 = .ok (.getfield 11, 3) := by decide +kernel
theorem dX5_addCopy_38 : decode cX5_addCopy 38 = .ok (.arraylength, 1) := by decide +kernel
theorem dX5_addCopy_39 : decode cX5_addCopy 39 = .ok (.if_icmp .lt 13, 3) := by decide +kernel
theorem dX5_addCopy_42 : decode cX5_addCopy 42 = .ok (.new 61, 3) := by decide +kernel
theorem dX5_addCopy_45 : decode cX5_addCopy 45 = .ok (.dup, 1) := by decide +kernel
theorem dX5_addCopy_46 : decode cX5_addCopy 46 = .ok (.ldc 63, 2) := by decide +kernel
theorem dX5_addCopy_48 : decode cX5_addCopy 48 = .ok (.invokespecial 65, 3) := by decide +kernel
theorem dX5_addCopy_51 : decode cX5_addCopy 51 = .ok (.athrow, 1) := by decide +kernel
theorem dX5_addCopy_52 : decode cX5_addCopy 52 = .ok (.new 9, 3) := by decide +kernel
theorem dX5_addCopy_55 : decode cX5_addCopy 55 = .ok (.dup, 1) := by decide +kernel
theorem dX5_addCopy_56 : decode cX5_addCopy 56 = .ok (.iload_n 3, 1) := by decide +kernel
theorem dX5_addCopy_57 : decode cX5_addCopy 57 = .ok (.iload_n 1, 1) := by decide +kernel
theorem dX5_addCopy_58 : decode cX5_addCopy 58 = .ok (.iload_n 2, 1) := by decide +kernel
theorem dX5_addCopy_59 : decode cX5_addCopy 59 = .ok (.invokespecial 66, 3) := by decide +kernel
theorem dX5_addCopy_62 : decode cX5_addCopy 62 = .ok (.astore 4, 2) := by decide +kernel
theorem dX5_addCopy_64 : decode cX5_addCopy 64 = .ok (.aload_n 0, 1) := by decide +kernel
theorem dX5_addCopy_65 : decode cX5_addCopy 65 = .ok (.getfield 11, 3) := by decide +kernel
theorem dX5_addCopy_68 : decode cX5_addCopy 68 = .ok (.iload_n 3, 1) := by decide +kernel
theorem dX5_addCopy_69 : decode cX5_addCopy 69 = .ok (.aload 4, 2) := by decide +kernel
theorem dX5_addCopy_71 : decode cX5_addCopy 71 = .ok (.aastore, 1) := by decide +kernel
theorem dX5_addCopy_72 : decode cX5_addCopy 72 = .ok (.aload_n 0, 1) := by decide +kernel
theorem dX5_addCopy_73 : decode cX5_addCopy 73 = .ok (.iload_n 3, 1) := by decide +kernel
theorem dX5_addCopy_74 : decode cX5_addCopy 74 = .ok (.iconst 1, 1) := by decide +kernel
theorem dX5_addCopy_75 : decode cX5_addCopy 75 = .ok (.iadd, 1) := by decide +kernel
theorem dX5_addCopy_76 : decode cX5_addCopy 76 = .ok (.putfield 37, 3) := by decide +kernel
end
section
theorem dX5_addCopy_79 : decode cX5_addCopy 79 = .ok (.aload_n 0, 1) := by decide +kernel
theorem dX5_addCopy_80 : decode cX5_addCopy 80 = .ok (.getfield 33, 3) := by decide +kernel
theorem dX5_addCopy_83 : decode cX5_addCopy 83 = .ok (.iload_n 1, 1) := by decide +kernel
theorem dX5_addCopy_84 : decode cX5_addCopy 84 = .ok (.invokevirtual 69, 3) := by decide +kernel
theorem dX5_addCopy_87 : decode cX5_addCopy 87 = .ok (.aload_n 0, 1) := by decide +kernel
theorem dX5_addCopy_88 : decode cX5_addCopy 88 = .ok (.iconst 0, 1) := by decide +kernel
theorem dX5_addCopy_89 : decode cX5_addCopy 89 = .ok (.aload 4, 2) := by decide +kernel
theorem dX5_addCopy_91 : decode cX5_addCopy 91 = .ok (.invokevirtual 72, 3) := by decide +kernel
theorem dX5_addCopy_94 : decode cX5_addCopy 94 = .ok (.iload_n 3, 1) := by decide +kernel
theorem dX5_addCopy_95 : decode cX5_addCopy 95 = .ok (.ireturn, 1) := by decide +kernel
set_option maxRecDepth 20000 in
theorem ggX5_inHandsOf_X5_copyNumbered : GoodIn wsX5_inHandsOf wsX5_copyNumbered := goodIn_ca (goodIn_r _ [6, 7, 8, 9, 18, 19, 20, 21, 22, 23, 24] (by decide +kernel) (by decide +kernel)) (goodIn_sub (fun _ h => List.mem_cons_of_mem _ (List.mem_append_right _ h)) (by decide +kernel))
set_option maxRecDepth 20000 in
theorem gX5_inHandsOf_X5_copyNumbered : GoodIn wsX5_inHandsOf (wsV RX5 76 RX5 yX5_copyNumbered wsX5_copyNumbered) := goodIn_app (goodIn_of _ (by decide +kernel)) ggX5_inHandsOf_X5_copyNumbered
theorem dX5_inHandsOf_0 : decode cX5_inHandsOf 0 = .ok (.aload_n 0, 1) := by decide +kernel
theorem dX5_inHandsOf_1 : decode cX5_inHandsOf 1 = .ok (.iload_n 1, 1) := by decide +kernel
theorem dX5_inHandsOf_2 : decode cX5_inHandsOf 2 = .ok (.invokevirtual 76, 3) := by decide +kernel
theorem dX5_inHandsOf_5 : decode cX5_inHandsOf 5 = .ok (.getfield 80, 3) := by decide +kernel
theorem dX5_inHandsOf_8 : decode cX5_inHandsOf 8 = .ok (.ireturn, 1) := by decide +kernel
set_option maxRecDepth 20000 in
theorem ggX5_isFree_X5_copyNumbered : GoodIn wsX5_isFree wsX5_copyNumbered := goodIn_ca (goodIn_r _ [5, 6, 7, 8, 22, 23, 24, 25, 26, 27, 28] (by decide +kernel) (by decide +kernel)) (goodIn_sub (fun _ h => List.mem_cons_of_mem _ (List.mem_append_right _ h)) (by decide +kernel))
set_option maxRecDepth 20000 in
theorem gX5_isFree_X5_copyNumbered : GoodIn wsX5_isFree (wsV RX5 76 RX5 yX5_copyNumbered wsX5_copyNumbered) := goodIn_app (goodIn_of _ (by decide +kernel)) ggX5_isFree_X5_copyNumbered
set_option maxRecDepth 20000 in
theorem ggX5_isFree_X1_canBeSent : GoodIn wsX5_isFree wsX1_canBeSent := goodIn_r _ [13, 14, 15, 16, 17, 12, 18, 19, 20, 21, 29, 30, 31, 32, 33, 34, 35, 36] (by decide +kernel) (by decide +kernel)
set_option maxRecDepth 20000 in
theorem gX5_isFree_X1_canBeSent : GoodIn wsX5_isFree (wsV RX5 83 RX1 yX1_canBeSent wsX1_canBeSent) := goodIn_app (goodIn_of _ (by decide +kernel)) ggX5_isFree_X1_canBeSent
theorem dX5_isFree_0 : decode cX5_isFree 0 = .ok (.aload_n 0, 1) := by decide +kernel
theorem dX5_isFree_1 : decode cX5_isFree 1 = .ok (.iload_n 1, 1) := by decide +kernel
theorem dX5_isFree_2 : decode cX5_isFree 2 = .ok (.invokevirtual 76, 3) := by decide +kernel
theorem dX5_isFree_5 : decode cX5_isFree 5 = .ok (.invokevirtual 83, 3) := by decide +kernel
theorem dX5_isFree_8 : decode cX5_isFree 8 = .ok (.ireturn, 1) := by decide +kernel
set_option maxRecDepth 20000 in
theorem ggX5_listed_X5_copyNumbered : GoodIn wsX5_listed wsX5_copyNumbered := goodIn_ca (goodIn_r _ [6, 7, 8, 9, 18, 19, 20, 21, 22, 23, 24] (by decide +kernel) (by decide +kernel)) (goodIn_sub (fun _ h => List.mem_cons_of_mem _ (List.mem_append_right _ h)) (by decide +kernel))
set_option maxRecDepth 20000 in
theorem gX5_listed_X5_copyNumbered : GoodIn wsX5_listed (wsV RX5 76 RX5 yX5_copyNumbered wsX5_copyNumbered) := goodIn_app (goodIn_of _ (by decide +kernel)) ggX5_listed_X5_copyNumbered
theorem dX5_listed_0 : decode cX5_listed 0 = .ok (.aload_n 0, 1) := by decide +kernel
theorem dX5_listed_1 : decode cX5_listed 1 = .ok (.iload_n 1, 1) := by decide +kernel
theorem dX5_listed_2 : decode cX5_listed 2 = .ok (.invokevirtual 76, 3) := by decide +kernel
theorem dX5_listed_5 : decode cX5_listed 5 = .ok (.getfield 87, 3) := by decide +kernel
theorem dX5_listed_8 : decode cX5_listed 8 = .ok (.ireturn, 1) := by decide +kernel
set_option maxRecDepth 20000 in
theorem ggX5_harm_X5_copyNumbered : GoodIn wsX5_harm wsX5_copyNumbered := goodIn_ca (goodIn_r _ [9, 10, 11, 12, 27, 28, 29, 30, 31, 32, 33] (by decide +kernel) (by decide +kernel)) (goodIn_sub (fun _ h => List.mem_cons_of_mem _ (List.mem_append_right _ h)) (by decide +kernel))
set_option maxRecDepth 20000 in
theorem gX5_harm_X5_copyNumbered : GoodIn wsX5_harm (wsV RX5 76 RX5 yX5_copyNumbered wsX5_copyNumbered) := goodIn_app (goodIn_of _ (by decide +kernel)) ggX5_harm_X5_copyNumbered
set_option maxRecDepth 20000 in
theorem ggX5_harm_X1_isHarmed : GoodIn wsX5_harm wsX1_isHarmed := goodIn_r _ [17, 18, 19, 20, 21, 22, 23, 24, 25, 26] (by decide +kernel) (by decide +kernel)
set_option maxRecDepth 20000 in
theorem gX5_harm_X1_isHarmed : GoodIn wsX5_harm (wsV RX5 90 RX1 yX1_isHarmed wsX1_isHarmed) := goodIn_app (goodIn_of _ (by decide +kernel)) ggX5_harm_X1_isHarmed
theorem dX5_harm_0 : decode cX5_harm 0 = .ok (.aload_n 0, 1) := by decide +kernel
theorem dX5_harm_1 : decode cX5_harm 1 = .ok (.iload_n 1, 1) := by decide +kernel
theorem dX5_harm_2 : decode cX5_harm 2 = .ok (.invokevirtual 76, 3) := by decide +kernel
theorem dX5_harm_5 : decode cX5_harm 5 = .ok (.astore_n 2, 1) := by decide +kernel
theorem dX5_harm_6 : decode cX5_harm 6 = .ok (.aload_n 2, 1) := by decide +kernel
theorem dX5_harm_7 : decode cX5_harm 7 = .ok (.invokevirtual 90, 3) := by decide +kernel
theorem dX5_harm_10 : decode cX5_harm 10 = .ok (.ifCond .eq 13, 3) := by decide +kernel
theorem dX5_harm_13 : decode cX5_harm 13 = .ok (.new 61, 3) := by decide +kernel
theorem dX5_harm_16 : decode cX5_harm 16 = .ok (.dup, 1) := by decide +kernel
theorem dX5_harm_17 : decode cX5_harm 17 = .ok (.ldc 93, 2) := by decide +kernel
theorem dX5_harm_19 : decode cX5_harm 19 = .ok (.invokespecial 65, 3) := by decide +kernel
theorem dX5_harm_22 : decode cX5_harm 22 = .ok (.athrow, 1) := by decide +kernel
theorem dX5_harm_23 : decode cX5_harm 23 = .ok (.aload_n 2, 1) := by decide +kernel
theorem dX5_harm_24 : decode cX5_harm 24 = .ok (.aload_n 2, 1) := by decide +kernel
theorem dX5_harm_25 : decode cX5_harm 25 = .ok (.getfield 80, 3) := by decide +kernel
theorem dX5_harm_28 : decode cX5_harm 28 = .ok (.putfield 95, 3) := by decide +kernel
theorem dX5_harm_31 : decode cX5_harm 31 = .ok (.aload_n 2, 1) := by decide +kernel
theorem dX5_harm_32 : decode cX5_harm 32 = .ok (.getfield 95, 3) := by decide +kernel
theorem dX5_harm_35 : decode cX5_harm 35 = .ok (.ireturn, 1) := by decide +kernel
set_option maxRecDepth 20000 in
theorem ggX5_look_X5_copyNumbered : GoodIn wsX5_look wsX5_copyNumbered := goodIn_ca (goodIn_r _ [8, 9, 10, 11, 42, 43, 44, 45, 46, 47, 48] (by decide +kernel) (by decide +kernel)) (goodIn_sub (fun _ h => List.mem_cons_of_mem _ (List.mem_append_right _ h)) (by decide +kernel))
set_option maxRecDepth 20000 in
theorem gX5_look_X5_copyNumbered : GoodIn wsX5_look (wsV RX5 76 RX5 yX5_copyNumbered wsX5_copyNumbered) := goodIn_app (goodIn_of _ (by decide +kernel)) ggX5_look_X5_copyNumbered
set_option maxRecDepth 20000 in
theorem ggX5_look_X5_examine : GoodIn wsX5_look wsX5_examine := goodIn_r _ [15, 16, 17, 18, 19, 20, 21, 22, 23, 24, 25, 26, 27, 28, 29, 30, 31, 32, 7, 33, 34, 35, 36, 37, 38, 39, 40, 41, 42, 43, 44, 45, 46, 47, 48, 49, 50, 51] (by decide +kernel) (by decide +kernel)
set_option maxRecDepth 20000 in
theorem gX5_look_X5_examine : GoodIn wsX5_look (wsV RX5 104 RX5 yX5_examine wsX5_examine) := goodIn_app (goodIn_of _ (by decide +kernel)) ggX5_look_X5_examine
theorem dX5_look_0 : decode cX5_look 0 = .ok (.aload_n 0, 1) := by decide +kernel
theorem dX5_look_1 : decode cX5_look 1 = .ok (.iload_n 1, 1) := by decide +kernel
theorem dX5_look_2 : decode cX5_look 2 = .ok (.invokevirtual 76, 3) := by decide +kernel
theorem dX5_look_5 : decode cX5_look 5 = .ok (.astore_n 2, 1) := by decide +kernel
theorem dX5_look_6 : decode cX5_look 6 = .ok (.aload_n 2, 1) := by decide +kernel
theorem dX5_look_7 : decode cX5_look 7 = .ok (.getfield 98, 3) := by decide +kernel
theorem dX5_look_10 : decode cX5_look 10 = .ok (.ifCond .eq 13, 3) := by decide +kernel
theorem dX5_look_13 : decode cX5_look 13 = .ok (.new 61, 3) := by decide +kernel
theorem dX5_look_16 : decode cX5_look 16 = .ok (.dup, 1) := by decide +kernel
theorem dX5_look_17 : decode cX5_look 17 = .ok (.ldc 102, 2) := by decide +kernel
theorem dX5_look_19 : decode cX5_look 19 = .ok (.invokespecial 65, 3) := by decide +kernel
theorem dX5_look_22 : decode cX5_look 22 = .ok (.athrow, 1) := by decide +kernel
theorem dX5_look_23 : decode cX5_look 23 = .ok (.aload_n 0, 1) := by decide +kernel
theorem dX5_look_24 : decode cX5_look 24 = .ok (.aload_n 2, 1) := by decide +kernel
theorem dX5_look_25 : decode cX5_look 25 = .ok (.invokevirtual 104, 3) := by decide +kernel
theorem dX5_look_28 : decode cX5_look 28 = .ok (.ireturn, 1) := by decide +kernel
set_option maxRecDepth 20000 in
theorem ggX5_mend_X5_copyNumbered : GoodIn wsX5_mend wsX5_copyNumbered := goodIn_ca (goodIn_r _ [9, 10, 11, 12, 64, 65, 66, 67, 68, 69, 70] (by decide +kernel) (by decide +kernel)) (goodIn_sub (fun _ h => List.mem_cons_of_mem _ (List.mem_append_right _ h)) (by decide +kernel))
set_option maxRecDepth 20000 in
theorem gX5_mend_X5_copyNumbered : GoodIn wsX5_mend (wsV RX5 76 RX5 yX5_copyNumbered wsX5_copyNumbered) := goodIn_app (goodIn_of _ (by decide +kernel)) ggX5_mend_X5_copyNumbered
set_option maxRecDepth 20000 in
theorem ggX5_mend_X1_isAtHome : GoodIn wsX5_mend wsX1_isAtHome := goodIn_r _ [17, 18, 19, 20, 56, 57, 58, 59, 60, 61, 62, 63] (by decide +kernel) (by decide +kernel)
set_option maxRecDepth 20000 in
theorem gX5_mend_X1_isAtHome : GoodIn wsX5_mend (wsV RX5 108 RX1 yX1_isAtHome wsX1_isAtHome) := goodIn_app (goodIn_of _ (by decide +kernel)) ggX5_mend_X1_isAtHome
set_option maxRecDepth 20000 in
theorem ggX5_mend_X5_sendNews : GoodIn wsX5_mend wsX5_sendNews := goodIn_r _ [24, 25, 26, 27, 8, 28, 29, 30, 31, 32, 33, 34, 35, 36, 37, 38, 39, 40, 41, 42, 43, 44, 45, 46, 47, 48, 49, 50, 51, 52, 53, 54, 55, 56, 57, 58, 59, 60, 61, 62, 63, 64, 65, 66, 67, 68, 69, 70, 71, 72, 73, 74, 75, 76] (by decide +kernel) (by decide +kernel)
set_option maxRecDepth 20000 in
theorem gX5_mend_X5_sendNews : GoodIn wsX5_mend (wsV RX5 72 RX5 yX5_sendNews wsX5_sendNews) := goodIn_app (goodIn_of _ (by decide +kernel)) ggX5_mend_X5_sendNews
theorem dX5_mend_0 : decode cX5_mend 0 = .ok (.aload_n 0, 1) := by decide +kernel
theorem dX5_mend_1 : decode cX5_mend 1 = .ok (.iload_n 1, 1) := by decide +kernel
theorem dX5_mend_2 : decode cX5_mend 2 = .ok (.invokevirtual 76, 3) := by decide +kernel
theorem dX5_mend_5 : decode cX5_mend 5 = .ok (.astore_n 2, 1) := by decide +kernel
theorem dX5_mend_6 : decode cX5_mend 6 = .ok (.aload_n 2, 1) := by decide +kernel
theorem dX5_mend_7 : decode cX5_mend 7 = .ok (.invokevirtual 108, 3) := by decide +kernel
theorem dX5_mend_10 : decode cX5_mend 10 = .ok (.ifCond .eq 10, 3) := by decide +kernel
theorem dX5_mend_13 : decode cX5_mend 13 = .ok (.aload_n 2, 1) := by decide +kernel
theorem dX5_mend_14 : decode cX5_mend 14 = .ok (.getfield 111, 3) := by decide +kernel
theorem dX5_mend_17 : decode cX5_mend 17 = .ok (.ifCond .ne 13, 3) := by decide +kernel
theorem dX5_mend_20 : decode cX5_mend 20 = .ok (.new 61, 3) := by decide +kernel
theorem dX5_mend_23 : decode cX5_mend 23 = .ok (.dup, 1) := by decide +kernel
theorem dX5_mend_24 : decode cX5_mend 24 = .ok (.ldc 114, 2) := by decide +kernel
theorem dX5_mend_26 : decode cX5_mend 26 = .ok (.invokespecial 65, 3) := by decide +kernel
theorem dX5_mend_29 : decode cX5_mend 29 = .ok (.athrow, 1) := by decide +kernel
theorem dX5_mend_30 : decode cX5_mend 30 = .ok (.aload_n 2, 1) := by decide +kernel
theorem dX5_mend_31 : decode cX5_mend 31 = .ok (.iconst (-1), 1) := by decide +kernel
theorem dX5_mend_32 : decode cX5_mend 32 = .ok (.putfield 95, 3) := by decide +kernel
theorem dX5_mend_35 : decode cX5_mend 35 = .ok (.aload_n 2, 1) := by decide +kernel
theorem dX5_mend_36 : decode cX5_mend 36 = .ok (.iconst 0, 1) := by decide +kernel
theorem dX5_mend_37 : decode cX5_mend 37 = .ok (.putfield 111, 3) := by decide +kernel
theorem dX5_mend_40 : decode cX5_mend 40 = .ok (.aload_n 0, 1) := by decide +kernel
theorem dX5_mend_41 : decode cX5_mend 41 = .ok (.iconst 0, 1) := by decide +kernel
theorem dX5_mend_42 : decode cX5_mend 42 = .ok (.aload_n 2, 1) := by decide +kernel
theorem dX5_mend_43 : decode cX5_mend 43 = .ok (.invokevirtual 72, 3) := by decide +kernel
theorem dX5_mend_46 : decode cX5_mend 46 = .ok (.return_, 1) := by decide +kernel
set_option maxRecDepth 20000 in
theorem ggX5_request_X5_isHouse : GoodIn wsX5_request wsX5_isHouse := goodIn_r _ [13] (by decide +kernel) (by decide +kernel)
set_option maxRecDepth 20000 in
theorem gX5_request_X5_isHouse : GoodIn wsX5_request (va_wsS RX5 47 yX5_isHouse wsX5_isHouse) := goodIn_app (goodIn_of _ (by decide +kernel)) ggX5_request_X5_isHouse
set_option maxRecDepth 20000 in
theorem ggX5_request_X5_isTitle : GoodIn wsX5_request wsX5_isTitle := goodIn_r _ [16] (by decide +kernel) (by decide +kernel)
set_option maxRecDepth 20000 in
theorem gX5_request_X5_isTitle : GoodIn wsX5_request (va_wsS RX5 51 yX5_isTitle wsX5_isTitle) := goodIn_app (goodIn_of _ (by decide +kernel)) ggX5_request_X5_isTitle
set_option maxRecDepth 20000 in
theorem ggX5_request_X3_init : GoodIn wsX5_request wsX3_init := goodIn_r _ [19, 20, 21, 22, 23, 24, 25, 26, 27, 28, 29, 93, 94, 95, 96, 97, 98, 99] (by decide +kernel) (by decide +kernel)
set_option maxRecDepth 20000 in
theorem gX5_request_X3_init : GoodIn wsX5_request (wsX3_init) := ggX5_request_X3_init
set_option maxRecDepth 20000 in
theorem ggX5_request_X5_askNextHome : GoodIn wsX5_request wsX5_askNextHome := goodIn_r _ [33, 34, 35, 36, 37, 38, 39, 40, 12, 41, 42, 43, 44, 45, 9, 46, 29, 47, 48, 24, 49, 23, 50, 51, 52, 53, 54, 55, 56, 57, 58, 59, 60, 61, 62, 63, 64, 65, 66, 67, 68, 69, 70, 71, 72, 73, 21, 22, 74, 75, 76, 77, 78, 79, 80, 81, 82, 83, 84, 85, 93, 94, 95, 96, 97, 98, 99, 100, 101, 102, 103, 104, 105, 106, 107, 86, 87, 88, 89, 90, 91, 92, 108, 109, 110, 111, 112, 113] (by decide +kernel) (by decide +kernel)
set_option maxRecDepth 20000 in
theorem gX5_request_X5_askNextHome : GoodIn wsX5_request (wsV RX5 123 RX5 yX5_askNextHome wsX5_askNextHome) := goodIn_app (goodIn_of _ (by decide +kernel)) ggX5_request_X5_askNextHome
theorem dX5_request_0 : decode cX5_request 0 = .ok (.iload_n 1, 1) := by decide +kernel
theorem dX5_request_1 : decode cX5_request 1 = .ok (.invokestatic 47, 3) := by decide +kernel
theorem dX5_request_4 : decode cX5_request 4 = .ok (.ifCond .eq 10, 3) := by decide +kernel
theorem dX5_request_7 : decode cX5_request 7 = .ok (.iload_n 2, 1) := by decide +kernel
theorem dX5_request_8 : decode cX5_request 8 = .ok (.invokestatic 51, 3) := by decide +kernel
theorem dX5_request_11 : decode cX5_request 11 = .ok (.ifCond .ne 13, 3) := by decide +kernel
theorem dX5_request_14 : decode cX5_request 14 = .ok (.new 54, 3) := by decide +kernel
theorem dX5_request_17 : decode cX5_request 17 = .ok (.dup, 1) := by decide +kernel
theorem dX5_request_18 : decode cX5_request 18 = .ok (.ldc 116, 2) := by decide +kernel
theorem dX5_request_20 : decode cX5_request 20 = .ok (.invokespecial 58, 3) := by decide +kernel
theorem dX5_request_23 : decode cX5_request 23 = .ok (.athrow, 1) := by decide +kernel
theorem dX5_request_24 : decode cX5_request 24 = .ok (.aload_n 0, 1) := by decide +kernel
theorem dX5_request_25 : decode cX5_request 25 = .ok (.getfield 41, 3) := by decide +kernel
theorem dX5_request_28 : decode cX5_request 28 = .ok (.istore_n 3, 1) := by decide +kernel
theorem dX5_request_29 : decode cX5_request 29 = .ok (.iload_n 3, 1) := by decide +kernel
theorem dX5_request_30 : decode cX5_request 30 = .ok (.ifCond .lt 12, 3) := by decide +kernel
theorem dX5_request_33 : decode cX5_request 33 = .ok (.iload_n 3, 1) := by decide +kernel
theorem dX5_request_34 : decode cX5_request 34 = .ok (.aload_n 0, 1) := by decide +kernel
theorem dX5_request_35 : decode cX5_request 35 = .ok (.getfield 17, 3) := by decide +kernel
theorem dX5_request_38 : decode cX5_request 38 = .ok (.arraylength, 1) := by decide +kernel
theorem dX5_request_39 : decode cX5_request 39 = .ok (.if_icmp .lt 13, 3) := by decide +kernel
theorem dX5_request_42 : decode cX5_request 42 = .ok (.new 61, 3) := by decide +kernel
theorem dX5_request_45 : decode cX5_request 45 = .ok (.dup, 1) := by decide +kernel
theorem dX5_request_46 : decode cX5_request 46 = .ok (.ldc 118, 2) := by decide +kernel
theorem dX5_request_48 : decode cX5_request 48 = .ok (.invokespecial 65, 3) := by decide +kernel
theorem dX5_request_51 : decode cX5_request 51 = .ok (.athrow, 1) := by decide +kernel
theorem dX5_request_52 : decode cX5_request 52 = .ok (.new 15, 3) := by decide +kernel
theorem dX5_request_55 : decode cX5_request 55 = .ok (.dup, 1) := by decide +kernel
theorem dX5_request_56 : decode cX5_request 56 = .ok (.iload_n 1, 1) := by decide +kernel
theorem dX5_request_57 : decode cX5_request 57 = .ok (.iload_n 2, 1) := by decide +kernel
theorem dX5_request_58 : decode cX5_request 58 = .ok (.invokespecial 120, 3) := by decide +kernel
theorem dX5_request_61 : decode cX5_request 61 = .ok (.astore 4, 2) := by decide +kernel
theorem dX5_request_63 : decode cX5_request 63 = .ok (.aload_n 0, 1) := by decide +kernel
theorem dX5_request_64 : decode cX5_request 64 = .ok (.getfield 17, 3) := by decide +kernel
theorem dX5_request_67 : decode cX5_request 67 = .ok (.iload_n 3, 1) := by decide +kernel
theorem dX5_request_68 : decode cX5_request 68 = .ok (.aload 4, 2) := by decide +kernel
theorem dX5_request_70 : decode cX5_request 70 = .ok (.aastore, 1) := by decide +kernel
theorem dX5_request_71 : decode cX5_request 71 = .ok (.aload_n 0, 1) := by decide +kernel
theorem dX5_request_72 : decode cX5_request 72 = .ok (.iload_n 3, 1) := by decide +kernel
theorem dX5_request_73 : decode cX5_request 73 = .ok (.iconst 1, 1) := by decide +kernel
theorem dX5_request_74 : decode cX5_request 74 = .ok (.iadd, 1) := by decide +kernel
theorem dX5_request_75 : decode cX5_request 75 = .ok (.putfield 41, 3) := by decide +kernel
theorem dX5_request_78 : decode cX5_request 78 = .ok (.aload_n 0, 1) := by decide +kernel
theorem dX5_request_79 : decode cX5_request 79 = .ok (.aload 4, 2) := by decide +kernel
theorem dX5_request_81 : decode cX5_request 81 = .ok (.invokevirtual 123, 3) := by decide +kernel
theorem dX5_request_84 : decode cX5_request 84 = .ok (.iload_n 3, 1) := by decide +kernel
theorem dX5_request_85 : decode cX5_request 85 = .ok (.ireturn, 1) := by decide +kernel
set_option maxRecDepth 20000 in
theorem ggX5_state_X5_requestNumbered : GoodIn wsX5_state wsX5_requestNumbered := goodIn_ca (goodIn_r _ [6, 7, 8, 9, 17, 18, 19, 20, 21, 22, 23] (by decide +kernel) (by decide +kernel)) (goodIn_sub (fun _ h => List.mem_cons_of_mem _ (List.mem_append_right _ h)) (by decide +kernel))
set_option maxRecDepth 20000 in
theorem gX5_state_X5_requestNumbered : GoodIn wsX5_state (wsV RX5 127 RX5 yX5_requestNumbered wsX5_requestNumbered) := goodIn_app (goodIn_of _ (by decide +kernel)) ggX5_state_X5_requestNumbered
theorem dX5_state_0 : decode cX5_state 0 = .ok (.aload_n 0, 1) := by decide +kernel
theorem dX5_state_1 : decode cX5_state 1 = .ok (.iload_n 1, 1) := by decide +kernel
theorem dX5_state_2 : decode cX5_state 2 = .ok (.invokevirtual 127, 3) := by decide +kernel
theorem dX5_state_5 : decode cX5_state 5 = .ok (.getfield 131, 3) := by decide +kernel
theorem dX5_state_8 : decode cX5_state 8 = .ok (.ireturn, 1) := by decide +kernel
set_option maxRecDepth 20000 in
theorem ggX5_copyOf_X5_requestNumbered : GoodIn wsX5_copyOf wsX5_requestNumbered := goodIn_ca (goodIn_r _ [7, 8, 9, 10, 26, 27, 28, 29, 30, 31, 32] (by decide +kernel) (by decide +kernel)) (goodIn_sub (fun _ h => List.mem_cons_of_mem _ (List.mem_append_right _ h)) (by decide +kernel))
set_option maxRecDepth 20000 in
theorem gX5_copyOf_X5_requestNumbered : GoodIn wsX5_copyOf (wsV RX5 127 RX5 yX5_requestNumbered wsX5_requestNumbered) := goodIn_app (goodIn_of _ (by decide +kernel)) ggX5_copyOf_X5_requestNumbered
theorem dX5_copyOf_0 : decode cX5_copyOf 0 = .ok (.aload_n 0, 1) := by decide +kernel
theorem dX5_copyOf_1 : decode cX5_copyOf 1 = .ok (.iload_n 1, 1) := by decide +kernel
theorem dX5_copyOf_2 : decode cX5_copyOf 2 = .ok (.invokevirtual 127, 3) := by decide +kernel
theorem dX5_copyOf_5 : decode cX5_copyOf 5 = .ok (.getfield 134, 3) := by decide +kernel
theorem dX5_copyOf_8 : decode cX5_copyOf 8 = .ok (.astore_n 2, 1) := by decide +kernel
theorem dX5_copyOf_9 : decode cX5_copyOf 9 = .ok (.aload_n 2, 1) := by decide +kernel
theorem dX5_copyOf_10 : decode cX5_copyOf 10 = .ok (.ifnonnull 7, 3) := by decide +kernel
theorem dX5_copyOf_13 : decode cX5_copyOf 13 = .ok (.iconst (-1), 1) := by decide +kernel
theorem dX5_copyOf_14 : decode cX5_copyOf 14 = .ok (.goto 7, 3) := by decide +kernel
theorem dX5_copyOf_17 : decode cX5_copyOf 17 = .ok (.aload_n 2, 1) := by decide +kernel
theorem dX5_copyOf_18 : decode cX5_copyOf 18 = .ok (.getfield 138, 3) := by decide +kernel
theorem dX5_copyOf_21 : decode cX5_copyOf 21 = .ok (.ireturn, 1) := by decide +kernel
set_option maxRecDepth 20000 in
theorem ggX5_due_X5_requestNumbered : GoodIn wsX5_due wsX5_requestNumbered := goodIn_ca (goodIn_r _ [9, 10, 11, 12, 20, 21, 22, 23, 24, 25, 26] (by decide +kernel) (by decide +kernel)) (goodIn_sub (fun _ h => List.mem_cons_of_mem _ (List.mem_append_right _ h)) (by decide +kernel))
set_option maxRecDepth 20000 in
theorem gX5_due_X5_requestNumbered : GoodIn wsX5_due (wsV RX5 127 RX5 yX5_requestNumbered wsX5_requestNumbered) := goodIn_app (goodIn_of _ (by decide +kernel)) ggX5_due_X5_requestNumbered
theorem dX5_due_0 : decode cX5_due 0 = .ok (.aload_n 0, 1) := by decide +kernel
theorem dX5_due_1 : decode cX5_due 1 = .ok (.iload_n 1, 1) := by decide +kernel
theorem dX5_due_2 : decode cX5_due 2 = .ok (.invokevirtual 127, 3) := by decide +kernel
theorem dX5_due_5 : decode cX5_due 5 = .ok (.astore_n 2, 1) := by decide +kernel
theorem dX5_due_6 : decode cX5_due 6 = .ok (.aload_n 2, 1) := by decide +kernel
theorem dX5_due_7 : decode cX5_due 7 = .ok (.getfield 131, 3) := by decide +kernel
theorem dX5_due_10 : decode cX5_due 10 = .ok (.iconst 2, 1) := by decide +kernel
theorem dX5_due_11 : decode cX5_due 11 = .ok (.if_icmp .eq 13, 3) := by decide +kernel
theorem dX5_due_14 : decode cX5_due 14 = .ok (.new 61, 3) := by decide +kernel
theorem dX5_due_17 : decode cX5_due 17 = .ok (.dup, 1) := by decide +kernel
theorem dX5_due_18 : decode cX5_due 18 = .ok (.ldc 141, 2) := by decide +kernel
theorem dX5_due_20 : decode cX5_due 20 = .ok (.invokespecial 65, 3) := by decide +kernel
theorem dX5_due_23 : decode cX5_due 23 = .ok (.athrow, 1) := by decide +kernel
theorem dX5_due_24 : decode cX5_due 24 = .ok (.aload_n 2, 1) := by decide +kernel
theorem dX5_due_25 : decode cX5_due 25 = .ok (.getfield 143, 3) := by decide +kernel
theorem dX5_due_28 : decode cX5_due 28 = .ok (.ireturn, 1) := by decide +kernel
set_option maxRecDepth 20000 in
theorem ggX5_renew_X5_requestNumbered : GoodIn wsX5_renew wsX5_requestNumbered := goodIn_ca (goodIn_r _ [11, 12, 13, 14, 64, 65, 66, 67, 68, 69, 70] (by decide +kernel) (by decide +kernel)) (goodIn_sub (fun _ h => List.mem_cons_of_mem _ (List.mem_append_right _ h)) (by decide +kernel))
set_option maxRecDepth 20000 in
theorem gX5_renew_X5_requestNumbered : GoodIn wsX5_renew (wsV RX5 127 RX5 yX5_requestNumbered wsX5_requestNumbered) := goodIn_app (goodIn_of _ (by decide +kernel)) ggX5_renew_X5_requestNumbered
set_option maxRecDepth 20000 in
theorem ggX5_renew_X5_way : GoodIn wsX5_renew wsX5_way := goodIn_r _ [17, 18, 19, 20, 21] (by decide +kernel) (by decide +kernel)
set_option maxRecDepth 20000 in
theorem gX5_renew_X5_way : GoodIn wsX5_renew (va_wsS RX5 152 yX5_way wsX5_way) := goodIn_app (goodIn_of _ (by decide +kernel)) ggX5_renew_X5_way
set_option maxRecDepth 20000 in
theorem ggX5_renew_X5_send : GoodIn wsX5_renew wsX5_send := goodIn_r _ [25, 26, 27, 28, 29, 30, 31, 32, 33, 34, 35, 36, 37, 38, 39, 40, 41, 42, 43, 44, 45, 46, 47, 48, 64, 65, 66, 67, 68, 69, 70, 71, 72, 73, 74, 75, 76] (by decide +kernel) (by decide +kernel)
set_option maxRecDepth 20000 in
theorem gX5_renew_X5_send : GoodIn wsX5_renew (wsV RX5 156 RX5 yX5_send wsX5_send) := goodIn_app (goodIn_of _ (by decide +kernel)) ggX5_renew_X5_send
theorem dX5_renew_0 : decode cX5_renew 0 = .ok (.aload_n 0, 1) := by decide +kernel
theorem dX5_renew_1 : decode cX5_renew 1 = .ok (.iload_n 1, 1) := by decide +kernel
theorem dX5_renew_2 : decode cX5_renew 2 = .ok (.invokevirtual 127, 3) := by decide +kernel
theorem dX5_renew_5 : decode cX5_renew 5 = .ok (.astore_n 2, 1) := by decide +kernel
theorem dX5_renew_6 : decode cX5_renew 6 = .ok (.aload_n 2, 1) := by decide +kernel
theorem dX5_renew_7 : decode cX5_renew 7 = .ok (.getfield 134, 3) := by decide +kernel
theorem dX5_renew_10 : decode cX5_renew 10 = .ok (.astore_n 3, 1) := by decide +kernel
theorem dX5_renew_11 : decode cX5_renew 11 = .ok (.aload_n 2, 1) := by decide +kernel
theorem dX5_renew_12 : decode cX5_renew 12 = .ok (.getfield 131, 3) := by decide +kernel
theorem dX5_renew_15 : decode cX5_renew 15 = .ok (.iconst 2, 1) := by decide +kernel
theorem dX5_renew_16 : decode cX5_renew 16 = .ok (.if_icmp .ne 7, 3) := by decide +kernel
theorem dX5_renew_19 : decode cX5_renew 19 = .ok (.aload_n 3, 1) := by decide +kernel
theorem dX5_renew_20 : decode cX5_renew 20 = .ok (.ifnonnull 13, 3) := by decide +kernel
theorem dX5_renew_23 : decode cX5_renew 23 = .ok (.new 61, 3) := by decide +kernel
theorem dX5_renew_26 : decode cX5_renew 26 = .ok (.dup, 1) := by decide +kernel
theorem dX5_renew_27 : decode cX5_renew 27 = .ok (.ldc 141, 2) := by decide +kernel
theorem dX5_renew_29 : decode cX5_renew 29 = .ok (.invokespecial 65, 3) := by decide +kernel
theorem dX5_renew_32 : decode cX5_renew 32 = .ok (.athrow, 1) := by decide +kernel
theorem dX5_renew_33 : decode cX5_renew 33 = .ok (.aload_n 0, 1) := by decide +kernel
theorem dX5_renew_34 : decode cX5_renew 34 = .ok (.iconst 5, 1) := by decide +kernel
theorem dX5_renew_35 : decode cX5_renew 35 = .ok (.aload_n 2, 1) := by decide +kernel
theorem dX5_renew_36 : decode cX5_renew 36 = .ok (.getfield 146, 3) := by decide +kernel
theorem dX5_renew_39 : decode cX5_renew 39 = .ok (.aload_n 3, 1) := by decide +kernel
theorem dX5_renew_40 : decode cX5_renew 40 = .ok (.getfield 149, 3) := by decide +kernel
theorem dX5_renew_43 : decode cX5_renew 43 = .ok (.invokestatic 152, 3) := by decide +kernel
theorem dX5_renew_46 : decode cX5_renew 46 = .ok (.aload_n 3, 1) := by decide +kernel
theorem dX5_renew_47 : decode cX5_renew 47 = .ok (.aload_n 2, 1) := by decide +kernel
theorem dX5_renew_48 : decode cX5_renew 48 = .ok (.invokevirtual 156, 3) := by decide +kernel
theorem dX5_renew_51 : decode cX5_renew 51 = .ok (.ireturn, 1) := by decide +kernel
set_option maxRecDepth 20000 in
theorem ggX5_recall_X5_requestNumbered : GoodIn wsX5_recall wsX5_requestNumbered := goodIn_ca (goodIn_r _ [12, 13, 14, 15, 65, 66, 67, 68, 69, 70, 71] (by decide +kernel) (by decide +kernel)) (goodIn_sub (fun _ h => List.mem_cons_of_mem _ (List.mem_append_right _ h)) (by decide +kernel))
set_option maxRecDepth 20000 in
theorem gX5_recall_X5_requestNumbered : GoodIn wsX5_recall (wsV RX5 127 RX5 yX5_requestNumbered wsX5_requestNumbered) := goodIn_app (goodIn_of _ (by decide +kernel)) ggX5_recall_X5_requestNumbered
set_option maxRecDepth 20000 in
theorem ggX5_recall_X5_way : GoodIn wsX5_recall wsX5_way := goodIn_r _ [18, 19, 20, 21, 22] (by decide +kernel) (by decide +kernel)
set_option maxRecDepth 20000 in
theorem gX5_recall_X5_way : GoodIn wsX5_recall (va_wsS RX5 152 yX5_way wsX5_way) := goodIn_app (goodIn_of _ (by decide +kernel)) ggX5_recall_X5_way
set_option maxRecDepth 20000 in
theorem ggX5_recall_X5_send : GoodIn wsX5_recall wsX5_send := goodIn_r _ [26, 27, 28, 29, 30, 31, 32, 33, 34, 35, 36, 37, 38, 39, 40, 41, 42, 43, 44, 45, 46, 47, 48, 49, 65, 66, 67, 68, 69, 70, 71, 72, 73, 74, 75, 76, 77] (by decide +kernel) (by decide +kernel)
set_option maxRecDepth 20000 in
theorem gX5_recall_X5_send : GoodIn wsX5_recall (wsV RX5 156 RX5 yX5_send wsX5_send) := goodIn_app (goodIn_of _ (by decide +kernel)) ggX5_recall_X5_send
theorem dX5_recall_0 : decode cX5_recall 0 = .ok (.aload_n 0, 1) := by decide +kernel
theorem dX5_recall_1 : decode cX5_recall 1 = .ok (.iload_n 1, 1) := by decide +kernel
theorem dX5_recall_2 : decode cX5_recall 2 = .ok (.invokevirtual 127, 3) := by decide +kernel
theorem dX5_recall_5 : decode cX5_recall 5 = .ok (.astore_n 2, 1) := by decide +kernel
theorem dX5_recall_6 : decode cX5_recall 6 = .ok (.aload_n 2, 1) := by decide +kernel
theorem dX5_recall_7 : decode cX5_recall 7 = .ok (.getfield 134, 3) := by decide +kernel
theorem dX5_recall_10 : decode cX5_recall 10 = .ok (.astore_n 3, 1) := by decide +kernel
theorem dX5_recall_11 : decode cX5_recall 11 = .ok (.aload_n 2, 1) := by decide +kernel
theorem dX5_recall_12 : decode cX5_recall 12 = .ok (.getfield 131, 3) := by decide +kernel
theorem dX5_recall_15 : decode cX5_recall 15 = .ok (.iconst 2, 1) := by decide +kernel
theorem dX5_recall_16 : decode cX5_recall 16 = .ok (.if_icmp .ne 14, 3) := by decide +kernel
theorem dX5_recall_19 : decode cX5_recall 19 = .ok (.aload_n 3, 1) := by decide +kernel
theorem dX5_recall_20 : decode cX5_recall 20 = .ok (.ifnull 10, 3) := by decide +kernel
theorem dX5_recall_23 : decode cX5_recall 23 = .ok (.aload_n 2, 1) := by decide +kernel
theorem dX5_recall_24 : decode cX5_recall 24 = .ok (.getfield 160, 3) := by decide +kernel
theorem dX5_recall_27 : decode cX5_recall 27 = .ok (.ifCond .eq 13, 3) := by decide +kernel
theorem dX5_recall_30 : decode cX5_recall 30 = .ok (.new 61, 3) := by decide +kernel
theorem dX5_recall_33 : decode cX5_recall 33 = .ok (.dup, 1) := by decide +kernel
theorem dX5_recall_34 : decode cX5_recall 34 = .ok (.ldc 163, 2) := by decide +kernel
theorem dX5_recall_36 : decode cX5_recall 36 = .ok (.invokespecial 65, 3) := by decide +kernel
theorem dX5_recall_39 : decode cX5_recall 39 = .ok (.athrow, 1) := by decide +kernel
theorem dX5_recall_40 : decode cX5_recall 40 = .ok (.aload_n 2, 1) := by decide +kernel
theorem dX5_recall_41 : decode cX5_recall 41 = .ok (.iconst 1, 1) := by decide +kernel
theorem dX5_recall_42 : decode cX5_recall 42 = .ok (.putfield 160, 3) := by decide +kernel
theorem dX5_recall_45 : decode cX5_recall 45 = .ok (.aload_n 0, 1) := by decide +kernel
theorem dX5_recall_46 : decode cX5_recall 46 = .ok (.bipush 6, 2) := by decide +kernel
theorem dX5_recall_48 : decode cX5_recall 48 = .ok (.aload_n 2, 1) := by decide +kernel
theorem dX5_recall_49 : decode cX5_recall 49 = .ok (.getfield 146, 3) := by decide +kernel
theorem dX5_recall_52 : decode cX5_recall 52 = .ok (.aload_n 3, 1) := by decide +kernel
theorem dX5_recall_53 : decode cX5_recall 53 = .ok (.getfield 149, 3) := by decide +kernel
theorem dX5_recall_56 : decode cX5_recall 56 = .ok (.invokestatic 152, 3) := by decide +kernel
theorem dX5_recall_59 : decode cX5_recall 59 = .ok (.aload_n 3, 1) := by decide +kernel
theorem dX5_recall_60 : decode cX5_recall 60 = .ok (.aload_n 2, 1) := by decide +kernel
theorem dX5_recall_61 : decode cX5_recall 61 = .ok (.invokevirtual 156, 3) := by decide +kernel
theorem dX5_recall_64 : decode cX5_recall 64 = .ok (.ireturn, 1) := by decide +kernel
set_option maxRecDepth 20000 in
theorem ggX5_sendBack_X5_requestNumbered : GoodIn wsX5_sendBack wsX5_requestNumbered := goodIn_ca (goodIn_r _ [19, 20, 21, 22, 70, 71, 72, 73, 74, 75, 76] (by decide +kernel) (by decide +kernel)) (goodIn_sub (fun _ h => List.mem_cons_of_mem _ (List.mem_append_right _ h)) (by decide +kernel))
set_option maxRecDepth 20000 in
theorem gX5_sendBack_X5_requestNumbered : GoodIn wsX5_sendBack (wsV RX5 127 RX5 yX5_requestNumbered wsX5_requestNumbered) := goodIn_app (goodIn_of _ (by decide +kernel)) ggX5_sendBack_X5_requestNumbered
set_option maxRecDepth 20000 in
theorem ggX5_sendBack_X0_charge : GoodIn wsX5_sendBack wsX0_charge := goodIn_r _ [27, 28, 29, 18, 30, 85, 86, 87] (by decide +kernel) (by decide +kernel)
set_option maxRecDepth 20000 in
theorem gX5_sendBack_X0_charge : GoodIn wsX5_sendBack (wsV RX5 170 RX0 yX0_charge wsX0_charge) := goodIn_app (goodIn_of _ (by decide +kernel)) ggX5_sendBack_X0_charge
set_option maxRecDepth 20000 in
theorem ggX5_sendBack_X5_way : GoodIn wsX5_sendBack wsX5_way := goodIn_r _ [33, 34, 35, 9, 36] (by decide +kernel) (by decide +kernel)
set_option maxRecDepth 20000 in
theorem gX5_sendBack_X5_way : GoodIn wsX5_sendBack (va_wsS RX5 152 yX5_way wsX5_way) := goodIn_app (goodIn_of _ (by decide +kernel)) ggX5_sendBack_X5_way
set_option maxRecDepth 20000 in
theorem ggX5_sendBack_X5_send : GoodIn wsX5_sendBack wsX5_send := goodIn_r _ [40, 5, 41, 42, 43, 44, 45, 46, 47, 48, 49, 50, 51, 52, 53, 54, 55, 56, 57, 58, 59, 60, 61, 62, 70, 71, 72, 73, 74, 75, 76, 88, 89, 90, 91, 92, 93] (by decide +kernel) (by decide +kernel)
set_option maxRecDepth 20000 in
theorem gX5_sendBack_X5_send : GoodIn wsX5_sendBack (wsV RX5 156 RX5 yX5_send wsX5_send) := goodIn_app (goodIn_of _ (by decide +kernel)) ggX5_sendBack_X5_send
theorem dX5_sendBack_0 : decode cX5_sendBack 0 = .ok (.aload_n 0, 1) := by decide +kernel
theorem dX5_sendBack_1 : decode cX5_sendBack 1 = .ok (.iload_n 1, 1) := by decide +kernel
theorem dX5_sendBack_2 : decode cX5_sendBack 2 = .ok (.invokevirtual 127, 3) := by decide +kernel
theorem dX5_sendBack_5 : decode cX5_sendBack 5 = .ok (.astore_n 2, 1) := by decide +kernel
theorem dX5_sendBack_6 : decode cX5_sendBack 6 = .ok (.aload_n 2, 1) := by decide +kernel
theorem dX5_sendBack_7 : decode cX5_sendBack 7 = .ok (.getfield 134, 3) := by decide +kernel
theorem dX5_sendBack_10 : decode cX5_sendBack 10 = .ok (.astore_n 3, 1) := by decide +kernel
theorem dX5_sendBack_11 : decode cX5_sendBack 11 = .ok (.aload_n 2, 1) := by decide +kernel
theorem dX5_sendBack_12 : decode cX5_sendBack 12 = .ok (.getfield 131, 3) := by decide +kernel
theorem dX5_sendBack_15 : decode cX5_sendBack 15 = .ok (.iconst 2, 1) := by decide +kernel
theorem dX5_sendBack_16 : decode cX5_sendBack 16 = .ok (.if_icmp .ne 7, 3) := by decide +kernel
theorem dX5_sendBack_19 : decode cX5_sendBack 19 = .ok (.aload_n 3, 1) := by decide +kernel
theorem dX5_sendBack_20 : decode cX5_sendBack 20 = .ok (.ifnonnull 13, 3) := by decide +kernel
theorem dX5_sendBack_23 : decode cX5_sendBack 23 = .ok (.new 61, 3) := by decide +kernel
theorem dX5_sendBack_26 : decode cX5_sendBack 26 = .ok (.dup, 1) := by decide +kernel
theorem dX5_sendBack_27 : decode cX5_sendBack 27 = .ok (.ldc 141, 2) := by decide +kernel
theorem dX5_sendBack_29 : decode cX5_sendBack 29 = .ok (.invokespecial 65, 3) := by decide +kernel
theorem dX5_sendBack_32 : decode cX5_sendBack 32 = .ok (.athrow, 1) := by decide +kernel
theorem dX5_sendBack_33 : decode cX5_sendBack 33 = .ok (.iconst 0, 1) := by decide +kernel
theorem dX5_sendBack_34 : decode cX5_sendBack 34 = .ok (.aload_n 0, 1) := by decide +kernel
theorem dX5_sendBack_35 : decode cX5_sendBack 35 = .ok (.getfield 44, 3) := by decide +kernel
theorem dX5_sendBack_38 : decode cX5_sendBack 38 = .ok (.aload_n 2, 1) := by decide +kernel
theorem dX5_sendBack_39 : decode cX5_sendBack 39 = .ok (.getfield 143, 3) := by decide +kernel
theorem dX5_sendBack_42 : decode cX5_sendBack 42 = .ok (.isub, 1) := by decide +kernel
theorem dX5_sendBack_43 : decode cX5_sendBack 43 = .ok (.invokestatic 165, 3) := by decide +kernel
theorem dX5_sendBack_46 : decode cX5_sendBack 46 = .ok (.istore 4, 2) := by decide +kernel
theorem dX5_sendBack_48 : decode cX5_sendBack 48 = .ok (.aload_n 0, 1) := by decide +kernel
theorem dX5_sendBack_49 : decode cX5_sendBack 49 = .ok (.getfield 33, 3) := by decide +kernel
theorem dX5_sendBack_52 : decode cX5_sendBack 52 = .ok (.aload_n 2, 1) := by decide +kernel
theorem dX5_sendBack_53 : decode cX5_sendBack 53 = .ok (.getfield 146, 3) := by decide +kernel
theorem dX5_sendBack_56 : decode cX5_sendBack 56 = .ok (.aload_n 3, 1) := by decide +kernel
theorem dX5_sendBack_57 : decode cX5_sendBack 57 = .ok (.getfield 149, 3) := by decide +kernel
theorem dX5_sendBack_60 : decode cX5_sendBack 60 = .ok (.iload 4, 2) := by decide +kernel
theorem dX5_sendBack_62 : decode cX5_sendBack 62 = .ok (.iconst 1, 1) := by decide +kernel
theorem dX5_sendBack_63 : decode cX5_sendBack 63 = .ok (.imul, 1) := by decide +kernel
theorem dX5_sendBack_64 : decode cX5_sendBack 64 = .ok (.invokevirtual 170, 3) := by decide +kernel
theorem dX5_sendBack_67 : decode cX5_sendBack 67 = .ok (.aload_n 2, 1) := by decide +kernel
theorem dX5_sendBack_68 : decode cX5_sendBack 68 = .ok (.iconst 3, 1) := by decide +kernel
theorem dX5_sendBack_69 : decode cX5_sendBack 69 = .ok (.putfield 131, 3) := by decide +kernel
theorem dX5_sendBack_72 : decode cX5_sendBack 72 = .ok (.aload_n 3, 1) := by decide +kernel
theorem dX5_sendBack_73 : decode cX5_sendBack 73 = .ok (.iconst 1, 1) := by decide +kernel
theorem dX5_sendBack_74 : decode cX5_sendBack 74 = .ok (.putfield 98, 3) := by decide +kernel
theorem dX5_sendBack_77 : decode cX5_sendBack 77 = .ok (.aload_n 0, 1) := by decide +kernel
theorem dX5_sendBack_78 : decode cX5_sendBack 78 = .ok (.iconst 4, 1) := by decide +kernel
theorem dX5_sendBack_79 : decode cX5_sendBack 79 = .ok (.aload_n 2, 1) := by decide +kernel
theorem dX5_sendBack_80 : decode cX5_sendBack 80 = .ok (.getfield 146, 3) := by decide +kernel
theorem dX5_sendBack_83 : decode cX5_sendBack 83 = .ok (.aload_n 3, 1) := by decide +kernel
theorem dX5_sendBack_84 : decode cX5_sendBack 84 = .ok (.getfield 149, 3) := by decide +kernel
theorem dX5_sendBack_87 : decode cX5_sendBack 87 = .ok (.invokestatic 152, 3) := by decide +kernel
theorem dX5_sendBack_90 : decode cX5_sendBack 90 = .ok (.aload_n 3, 1) := by decide +kernel
theorem dX5_sendBack_91 : decode cX5_sendBack 91 = .ok (.aload_n 2, 1) := by decide +kernel
theorem dX5_sendBack_92 : decode cX5_sendBack 92 = .ok (.invokevirtual 156, 3) := by decide +kernel
theorem dX5_sendBack_95 : decode cX5_sendBack 95 = .ok (.pop, 1) := by decide +kernel
theorem dX5_sendBack_96 : decode cX5_sendBack 96 = .ok (.iload 4, 2) := by decide +kernel
theorem dX5_sendBack_98 : decode cX5_sendBack 98 = .ok (.ireturn, 1) := by decide +kernel
set_option maxRecDepth 20000 in
theorem ggX5_pass_X5_arrivalsOfNextDay : GoodIn wsX5_pass wsX5_arrivalsOfNextDay := goodIn_r _ [7, 8, 9, 10, 11, 12, 13, 14, 15, 16, 17, 18, 19, 20, 21, 22, 23, 24, 25, 26, 27, 28, 6, 29, 30, 31, 32, 33, 34, 35, 36, 37, 38, 39, 40, 41, 42, 43, 44, 45, 46, 47, 48, 49, 50, 51, 52, 53, 54, 55, 56, 57, 58, 59, 60, 61, 62, 63, 64, 65, 66, 67, 68, 69, 70, 71, 72, 73, 74, 75, 76, 77, 78, 79, 80, 81, 82, 83, 84, 85, 86, 87, 88, 89, 90, 91, 92, 93, 94, 95, 96, 97, 98, 99, 100, 101, 102, 103, 104, 105, 106, 107, 108, 109, 110, 111, 112, 113, 114, 115, 116, 117, 118, 119, 120, 121, 122, 123, 124, 125, 126, 127, 128, 129, 130, 131, 132, 133, 134, 135, 136, 137, 138, 139, 140, 141, 142, 143, 144, 145, 146, 147, 148, 149, 150, 151, 152, 153, 154, 155, 156, 157, 158, 159, 160, 161, 162, 163, 164, 165, 166, 167, 168, 169, 170, 171, 172, 173, 174, 175, 176, 177, 178, 179, 180, 181, 182, 183, 184, 185, 186, 187, 188, 189, 190, 191] (by decide +kernel) (by decide +kernel)
set_option maxRecDepth 20000 in
theorem gX5_pass_X5_arrivalsOfNextDay : GoodIn wsX5_pass (wsV RX5 175 RX5 yX5_arrivalsOfNextDay wsX5_arrivalsOfNextDay) := goodIn_app (goodIn_of _ (by decide +kernel)) ggX5_pass_X5_arrivalsOfNextDay
theorem dX5_pass_0 : decode cX5_pass 0 = .ok (.iload_n 1, 1) := by decide +kernel
theorem dX5_pass_1 : decode cX5_pass 1 = .ok (.iconst 1, 1) := by decide +kernel
theorem dX5_pass_2 : decode cX5_pass 2 = .ok (.if_icmp .lt 9, 3) := by decide +kernel
theorem dX5_pass_5 : decode cX5_pass 5 = .ok (.iload_n 1, 1) := by decide +kernel
theorem dX5_pass_6 : decode cX5_pass 6 = .ok (.bipush 100, 2) := by decide +kernel
theorem dX5_pass_8 : decode cX5_pass 8 = .ok (.if_icmp .le 13, 3) := by decide +kernel
theorem dX5_pass_11 : decode cX5_pass 11 = .ok (.new 54, 3) := by decide +kernel
theorem dX5_pass_14 : decode cX5_pass 14 = .ok (.dup, 1) := by decide +kernel
theorem dX5_pass_15 : decode cX5_pass 15 = .ok (.ldc 173, 2) := by decide +kernel
theorem dX5_pass_17 : decode cX5_pass 17 = .ok (.invokespecial 58, 3) := by decide +kernel
theorem dX5_pass_20 : decode cX5_pass 20 = .ok (.athrow, 1) := by decide +kernel
theorem dX5_pass_21 : decode cX5_pass 21 = .ok (.iconst 0, 1) := by decide +kernel
theorem dX5_pass_22 : decode cX5_pass 22 = .ok (.istore_n 2, 1) := by decide +kernel
theorem dX5_pass_23 : decode cX5_pass 23 = .ok (.iconst 0, 1) := by decide +kernel
theorem dX5_pass_24 : decode cX5_pass 24 = .ok (.istore_n 3, 1) := by decide +kernel
theorem dX5_pass_25 : decode cX5_pass 25 = .ok (.iload_n 3, 1) := by decide +kernel
theorem dX5_pass_26 : decode cX5_pass 26 = .ok (.iload_n 1, 1) := by decide +kernel
theorem dX5_pass_27 : decode cX5_pass 27 = .ok (.if_icmp .ge 16, 3) := by decide +kernel
theorem dX5_pass_30 : decode cX5_pass 30 = .ok (.iload_n 2, 1) := by decide +kernel
theorem dX5_pass_31 : decode cX5_pass 31 = .ok (.aload_n 0, 1) := by decide +kernel
theorem dX5_pass_32 : decode cX5_pass 32 = .ok (.invokevirtual 175, 3) := by decide +kernel
theorem dX5_pass_35 : decode cX5_pass 35 = .ok (.iadd, 1) := by decide +kernel
theorem dX5_pass_36 : decode cX5_pass 36 = .ok (.istore_n 2, 1) := by decide +kernel
theorem dX5_pass_37 : decode cX5_pass 37 = .ok (.iinc 3 1, 3) := by decide +kernel
theorem dX5_pass_40 : decode cX5_pass 40 = .ok (.goto (-15), 3) := by decide +kernel
theorem dX5_pass_43 : decode cX5_pass 43 = .ok (.iload_n 2, 1) := by decide +kernel
theorem dX5_pass_44 : decode cX5_pass 44 = .ok (.ireturn, 1) := by decide +kernel
theorem dX5_today_0 : decode cX5_today 0 = .ok (.aload_n 0, 1) := by decide +kernel
theorem dX5_today_1 : decode cX5_today 1 = .ok (.getfield 44, 3) := by decide +kernel
theorem dX5_today_4 : decode cX5_today 4 = .ok (.ireturn, 1) := by decide +kernel
set_option maxRecDepth 20000 in
theorem ggX5_owes_X5_isHouse : GoodIn wsX5_owes wsX5_isHouse := goodIn_r _ [7] (by decide +kernel) (by decide +kernel)
set_option maxRecDepth 20000 in
theorem gX5_owes_X5_isHouse : GoodIn wsX5_owes (va_wsS RX5 47 yX5_isHouse wsX5_isHouse) := goodIn_app (goodIn_of _ (by decide +kernel)) ggX5_owes_X5_isHouse
set_option maxRecDepth 20000 in
theorem ggX5_owes_X0_balance : GoodIn wsX5_owes wsX0_balance := goodIn_r _ [12, 13, 5, 6, 7, 21, 22, 23] (by decide +kernel) (by decide +kernel)
set_option maxRecDepth 20000 in
theorem gX5_owes_X0_balance : GoodIn wsX5_owes (wsV RX5 181 RX0 yX0_balance wsX0_balance) := goodIn_app (goodIn_of _ (by decide +kernel)) ggX5_owes_X0_balance
theorem dX5_owes_0 : decode cX5_owes 0 = .ok (.iload_n 1, 1) := by decide +kernel
theorem dX5_owes_1 : decode cX5_owes 1 = .ok (.invokestatic 47, 3) := by decide +kernel
theorem dX5_owes_4 : decode cX5_owes 4 = .ok (.ifCond .eq 10, 3) := by decide +kernel
theorem dX5_owes_7 : decode cX5_owes 7 = .ok (.iload_n 2, 1) := by decide +kernel
theorem dX5_owes_8 : decode cX5_owes 8 = .ok (.invokestatic 47, 3) := by decide +kernel
theorem dX5_owes_11 : decode cX5_owes 11 = .ok (.ifCond .ne 13, 3) := by decide +kernel
theorem dX5_owes_14 : decode cX5_owes 14 = .ok (.new 54, 3) := by decide +kernel
theorem dX5_owes_17 : decode cX5_owes 17 = .ok (.dup, 1) := by decide +kernel
theorem dX5_owes_18 : decode cX5_owes 18 = .ok (.ldc 179, 2) := by decide +kernel
theorem dX5_owes_20 : decode cX5_owes 20 = .ok (.invokespecial 58, 3) := by decide +kernel
theorem dX5_owes_23 : decode cX5_owes 23 = .ok (.athrow, 1) := by decide +kernel
theorem dX5_owes_24 : decode cX5_owes 24 = .ok (.aload_n 0, 1) := by decide +kernel
theorem dX5_owes_25 : decode cX5_owes 25 = .ok (.getfield 33, 3) := by decide +kernel
theorem dX5_owes_28 : decode cX5_owes 28 = .ok (.iload_n 1, 1) := by decide +kernel
theorem dX5_owes_29 : decode cX5_owes 29 = .ok (.iload_n 2, 1) := by decide +kernel
theorem dX5_owes_30 : decode cX5_owes 30 = .ok (.invokevirtual 181, 3) := by decide +kernel
theorem dX5_owes_33 : decode cX5_owes 33 = .ok (.ireturn, 1) := by decide +kernel
set_option maxRecDepth 20000 in
theorem ggX5_settle_X0_clearDebts : GoodIn wsX5_settle wsX0_clearDebts := goodIn_r _ [6, 7, 8, 9, 10, 5, 11, 12, 13, 14, 22, 23, 24] (by decide +kernel) (by decide +kernel)
set_option maxRecDepth 20000 in
theorem gX5_settle_X0_clearDebts : GoodIn wsX5_settle (wsV RX5 184 RX0 yX0_clearDebts wsX0_clearDebts) := goodIn_app (goodIn_of _ (by decide +kernel)) ggX5_settle_X0_clearDebts
theorem dX5_settle_0 : decode cX5_settle 0 = .ok (.aload_n 0, 1) := by decide +kernel
theorem dX5_settle_1 : decode cX5_settle 1 = .ok (.getfield 33, 3) := by decide +kernel
theorem dX5_settle_4 : decode cX5_settle 4 = .ok (.invokevirtual 184, 3) := by decide +kernel
theorem dX5_settle_7 : decode cX5_settle 7 = .ok (.ireturn, 1) := by decide +kernel
set_option maxRecDepth 20000 in
theorem ggX5_quota_X5_isHouse : GoodIn wsX5_quota wsX5_isHouse := goodIn_r _ [7] (by decide +kernel) (by decide +kernel)
set_option maxRecDepth 20000 in
theorem gX5_quota_X5_isHouse : GoodIn wsX5_quota (va_wsS RX5 47 yX5_isHouse wsX5_isHouse) := goodIn_app (goodIn_of _ (by decide +kernel)) ggX5_quota_X5_isHouse
set_option maxRecDepth 20000 in
theorem ggX5_quota_X0_freeLoansOf : GoodIn wsX5_quota wsX0_freeLoansOf := goodIn_r _ [12, 13, 5, 6, 7, 21, 22, 23] (by decide +kernel) (by decide +kernel)
set_option maxRecDepth 20000 in
theorem gX5_quota_X0_freeLoansOf : GoodIn wsX5_quota (wsV RX5 189 RX0 yX0_freeLoansOf wsX0_freeLoansOf) := goodIn_app (goodIn_of _ (by decide +kernel)) ggX5_quota_X0_freeLoansOf
theorem dX5_quota_0 : decode cX5_quota 0 = .ok (.iload_n 1, 1) := by decide +kernel
theorem dX5_quota_1 : decode cX5_quota 1 = .ok (.invokestatic 47, 3) := by decide +kernel
theorem dX5_quota_4 : decode cX5_quota 4 = .ok (.ifCond .ne 13, 3) := by decide +kernel
theorem dX5_quota_7 : decode cX5_quota 7 = .ok (.new 54, 3) := by decide +kernel
theorem dX5_quota_10 : decode cX5_quota 10 = .ok (.dup, 1) := by decide +kernel
theorem dX5_quota_11 : decode cX5_quota 11 = .ok (.ldc 187, 2) := by decide +kernel
theorem dX5_quota_13 : decode cX5_quota 13 = .ok (.invokespecial 58, 3) := by decide +kernel
theorem dX5_quota_16 : decode cX5_quota 16 = .ok (.athrow, 1) := by decide +kernel
theorem dX5_quota_17 : decode cX5_quota 17 = .ok (.aload_n 0, 1) := by decide +kernel
theorem dX5_quota_18 : decode cX5_quota 18 = .ok (.getfield 33, 3) := by decide +kernel
theorem dX5_quota_21 : decode cX5_quota 21 = .ok (.iload_n 1, 1) := by decide +kernel
theorem dX5_quota_22 : decode cX5_quota 22 = .ok (.invokevirtual 189, 3) := by decide +kernel
theorem dX5_quota_25 : decode cX5_quota 25 = .ok (.ireturn, 1) := by decide +kernel
theorem dX5_isHouse_0 : decode cX5_isHouse 0 = .ok (.iload_n 0, 1) := by decide +kernel
theorem dX5_isHouse_1 : decode cX5_isHouse 1 = .ok (.ifCond .lt 13, 3) := by decide +kernel
theorem dX5_isHouse_4 : decode cX5_isHouse 4 = .ok (.iload_n 0, 1) := by decide +kernel
theorem dX5_isHouse_5 : decode cX5_isHouse 5 = .ok (.bipush 6, 2) := by decide +kernel
theorem dX5_isHouse_7 : decode cX5_isHouse 7 = .ok (.if_icmp .ge 7, 3) := by decide +kernel
theorem dX5_isHouse_10 : decode cX5_isHouse 10 = .ok (.iconst 1, 1) := by decide +kernel
theorem dX5_isHouse_11 : decode cX5_isHouse 11 = .ok (.goto 4, 3) := by decide +kernel
theorem dX5_isHouse_14 : decode cX5_isHouse 14 = .ok (.iconst 0, 1) := by decide +kernel
theorem dX5_isHouse_15 : decode cX5_isHouse 15 = .ok (.ireturn, 1) := by decide +kernel
theorem dX5_isTitle_0 : decode cX5_isTitle 0 = .ok (.iload_n 0, 1) := by decide +kernel
theorem dX5_isTitle_1 : decode cX5_isTitle 1 = .ok (.ifCond .lt 13, 3) := by decide +kernel
theorem dX5_isTitle_4 : decode cX5_isTitle 4 = .ok (.iload_n 0, 1) := by decide +kernel
theorem dX5_isTitle_5 : decode cX5_isTitle 5 = .ok (.bipush 8, 2) := by decide +kernel
theorem dX5_isTitle_7 : decode cX5_isTitle 7 = .ok (.if_icmp .ge 7, 3) := by decide +kernel
theorem dX5_isTitle_10 : decode cX5_isTitle 10 = .ok (.iconst 1, 1) := by decide +kernel
theorem dX5_isTitle_11 : decode cX5_isTitle 11 = .ok (.goto 4, 3) := by decide +kernel
theorem dX5_isTitle_14 : decode cX5_isTitle 14 = .ok (.iconst 0, 1) := by decide +kernel
theorem dX5_isTitle_15 : decode cX5_isTitle 15 = .ok (.ireturn, 1) := by decide +kernel
theorem dX5_copyNumbered_0 : decode cX5_copyNumbered 0 = .ok (.iload_n 1, 1) := by decide +kernel
theorem dX5_copyNumbered_1 : decode cX5_copyNumbered 1 = .ok (.ifCond .lt 21, 3) := by decide +kernel
theorem dX5_copyNumbered_4 : decode cX5_copyNumbered 4 = .ok (.iload_n 1, 1) := by decide +kernel
theorem dX5_copyNumbered_5 : decode cX5_copyNumbered 5 = .ok (.aload_n 0, 1) := by decide +kernel
theorem dX5_copyNumbered_6 : decode cX5_copyNumbered 6 = .ok (.getfield 11, 3) := by decide +kernel
theorem dX5_copyNumbered_9 : decode cX5_copyNumbered 9 = .ok (.arraylength, 1) := by decide +kernel
theorem dX5_copyNumbered_10 : decode cX5_copyNumbered 10 = .ok (.if_icmp .ge 12, 3) := by decide +kernel
theorem dX5_copyNumbered_13 : decode cX5_copyNumbered 13 = .ok (.aload_n 0, 1) := by decide +kernel
theorem dX5_copyNumbered_14 : decode cX5_copyNumbered 14 = .ok (.getfield 11, 3) := by decide +kernel
theorem dX5_copyNumbered_17 : decode cX5_copyNumbered 17 = .ok (.iload_n 1, 1) := by decide +kernel
theorem dX5_copyNumbered_18 : decode cX5_copyNumbered 18 = .ok (.aaload, 1) := by decide +kernel
theorem dX5_copyNumbered_19 : decode cX5_copyNumbered 19 = .ok (.goto 4, 3) := by decide +kernel
theorem dX5_copyNumbered_22 : decode cX5_copyNumbered 22 = .ok (.aconst_null, 1) := by decide +kernel
theorem dX5_copyNumbered_23 : decode cX5_copyNumbered 23 = .ok (.astore_n 2, 1) := by decide +kernel
theorem dX5_copyNumbered_24 : decode cX5_copyNumbered 24 = .ok (.aload_n 2, 1) := by decide +kernel
theorem dX5_copyNumbered_25 : decode cX5_copyNumbered 25 = .ok (.ifnonnull 13, 3) := by decide +kernel
theorem dX5_copyNumbered_28 : decode cX5_copyNumbered 28 = .ok (.new 193, 3) := by decide +kernel
theorem dX5_copyNumbered_31 : decode cX5_copyNumbered 31 = .ok (.dup, 1) := by decide +kernel
theorem dX5_copyNumbered_32 : decode cX5_copyNumbered 32 = .ok (.ldc 195, 2) := by decide +kernel
theorem dX5_copyNumbered_34 : decode cX5_copyNumbered 34 = .ok (.invokespecial 197, 3) := by decide +kernel
theorem dX5_copyNumbered_37 : decode cX5_copyNumbered 37 = .ok (.athrow, 1) := by decide +kernel
theorem dX5_copyNumbered_38 : decode cX5_copyNumbered 38 = .ok (.aload_n 2, 1) := by decide +kernel
theorem dX5_copyNumbered_39 : decode cX5_copyNumbered 39 = .ok (.areturn, 1) := by decide +kernel
theorem dX5_requestNumbered_0 : decode cX5_requestNumbered 0 = .ok (.iload_n 1, 1) := by decide +kernel
theorem dX5_requestNumbered_1 : decode cX5_requestNumbered 1 = .ok (.ifCond .lt 21, 3) := by decide +kernel
theorem dX5_requestNumbered_4 : decode cX5_requestNumbered 4 = .ok (.iload_n 1, 1) := by decide +kernel
theorem dX5_requestNumbered_5 : decode cX5_requestNumbered 5 = .ok (.aload_n 0, 1) := by decide +kernel
theorem dX5_requestNumbered_6 : decode cX5_requestNumbered 6 = .ok (.getfield 17, 3) := by decide +kernel
theorem dX5_requestNumbered_9 : decode cX5_requestNumbered 9 = .ok (.arraylength, 1) := by decide +kernel
theorem dX5_requestNumbered_10 : decode cX5_requestNumbered 10 = .ok (.if_icmp .ge 12, 3) := by decide +kernel
theorem dX5_requestNumbered_13 : decode cX5_requestNumbered 13 = .ok (.aload_n 0, 1) := by decide +kernel
theorem dX5_requestNumbered_14 : decode cX5_requestNumbered 14 = .ok (.getfield 17, 3) := by decide +kernel
theorem dX5_requestNumbered_17 : decode cX5_requestNumbered 17 = .ok (.iload_n 1, 1) := by decide +kernel
theorem dX5_requestNumbered_18 : decode cX5_requestNumbered 18 = .ok (.aaload, 1) := by decide +kernel
theorem dX5_requestNumbered_19 : decode cX5_requestNumbered 19 = .ok (.goto 4, 3) := by decide +kernel
theorem dX5_requestNumbered_22 : decode cX5_requestNumbered 22 = .ok (.aconst_null, 1) := by decide +kernel
theorem dX5_requestNumbered_23 : decode cX5_requestNumbered 23 = .ok (.astore_n 2, 1) := by decide +kernel
theorem dX5_requestNumbered_24 : decode cX5_requestNumbered 24 = .ok (.aload_n 2, 1) := by decide +kernel
theorem dX5_requestNumbered_25 : decode cX5_requestNumbered 25 = .ok (.ifnonnull 13, 3) := by decide +kernel
theorem dX5_requestNumbered_28 : decode cX5_requestNumbered 28 = .ok (.new 193, 3) := by decide +kernel
theorem dX5_requestNumbered_31 : decode cX5_requestNumbered 31 = .ok (.dup, 1) := by decide +kernel
theorem dX5_requestNumbered_32 : decode cX5_requestNumbered 32 = .ok (.ldc 198, 2) := by decide +kernel
theorem dX5_requestNumbered_34 : decode cX5_requestNumbered 34 = .ok (.invokespecial 197, 3) := by decide +kernel
theorem dX5_requestNumbered_37 : decode cX5_requestNumbered 37 = .ok (.athrow, 1) := by decide +kernel
theorem dX5_requestNumbered_38 : decode cX5_requestNumbered 38 = .ok (.aload_n 2, 1) := by decide +kernel
theorem dX5_requestNumbered_39 : decode cX5_requestNumbered 39 = .ok (.areturn, 1) := by decide +kernel
theorem dX5_way_0 : decode cX5_way 0 = .ok (.iload_n 0, 1) := by decide +kernel
theorem dX5_way_1 : decode cX5_way 1 = .ok (.iload_n 1, 1) := by decide +kernel
theorem dX5_way_2 : decode cX5_way 2 = .ok (.isub, 1) := by decide +kernel
theorem dX5_way_3 : decode cX5_way 3 = .ok (.invokestatic 200, 3) := by decide +kernel
theorem dX5_way_6 : decode cX5_way 6 = .ok (.iconst 1, 1) := by decide +kernel
theorem dX5_way_7 : decode cX5_way 7 = .ok (.iadd, 1) := by decide +kernel
theorem dX5_way_8 : decode cX5_way 8 = .ok (.ireturn, 1) := by decide +kernel
theorem dX5_wayToList_0 : decode cX5_wayToList 0 = .ok (.iload_n 0, 1) := by decide +kernel
theorem dX5_wayToList_1 : decode cX5_wayToList 1 = .ok (.iconst 1, 1) := by decide +kernel
theorem dX5_wayToList_2 : decode cX5_wayToList 2 = .ok (.iadd, 1) := by decide +kernel
theorem dX5_wayToList_3 : decode cX5_wayToList 3 = .ok (.ireturn, 1) := by decide +kernel
end
section
set_option maxRecDepth 20000 in
theorem ggX5_send_X4_init : GoodIn wsX5_send wsX4_init := goodIn_r _ [8, 9, 10, 11, 12, 13, 14, 15, 31, 32, 33, 34] (by decide +kernel) (by decide +kernel)
set_option maxRecDepth 20000 in
theorem gX5_send_X4_init : GoodIn wsX5_send (wsX4_init) := ggX5_send_X4_init
set_option maxRecDepth 20000 in
theorem ggX5_send_X2_put : GoodIn wsX5_send wsX2_put := goodIn_r _ [20, 21, 22, 23, 35, 36, 31, 32, 33, 34] (by decide +kernel) (by decide +kernel)
set_option maxRecDepth 20000 in
theorem gX5_send_X2_put : GoodIn wsX5_send (wsV RX5 208 RX2 yX2_put wsX2_put) := goodIn_app (goodIn_of _ (by decide +kernel)) ggX5_send_X2_put
theorem dX5_send_0 : decode cX5_send 0 = .ok (.aload_n 0, 1) := by decide +kernel
theorem dX5_send_1 : decode cX5_send 1 = .ok (.getfield 44, 3) := by decide +kernel
theorem dX5_send_4 : decode cX5_send 4 = .ok (.iload_n 2, 1) := by decide +kernel
theorem dX5_send_5 : decode cX5_send 5 = .ok (.iadd, 1) := by decide +kernel
theorem dX5_send_6 : decode cX5_send 6 = .ok (.istore 5, 2) := by decide +kernel
theorem dX5_send_8 : decode cX5_send 8 = .ok (.aload_n 0, 1) := by decide +kernel
theorem dX5_send_9 : decode cX5_send 9 = .ok (.getfield 26, 3) := by decide +kernel
theorem dX5_send_12 : decode cX5_send 12 = .ok (.new 203, 3) := by decide +kernel
theorem dX5_send_15 : decode cX5_send 15 = .ok (.dup, 1) := by decide +kernel
theorem dX5_send_16 : decode cX5_send 16 = .ok (.iload_n 1, 1) := by decide +kernel
theorem dX5_send_17 : decode cX5_send 17 = .ok (.iload 5, 2) := by decide +kernel
theorem dX5_send_19 : decode cX5_send 19 = .ok (.aload_n 3, 1) := by decide +kernel
theorem dX5_send_20 : decode cX5_send 20 = .ok (.aload 4, 2) := by decide +kernel
theorem dX5_send_22 : decode cX5_send 22 = .ok (.invokespecial 205, 3) := by decide +kernel
theorem dX5_send_25 : decode cX5_send 25 = .ok (.invokevirtual 208, 3) := by decide +kernel
theorem dX5_send_28 : decode cX5_send 28 = .ok (.iload 5, 2) := by decide +kernel
theorem dX5_send_30 : decode cX5_send 30 = .ok (.ireturn, 1) := by decide +kernel
set_option maxRecDepth 20000 in
theorem ggX5_sendNews_X5_wayToList : GoodIn wsX5_sendNews wsX5_wayToList := goodIn_r _ [5] (by decide +kernel) (by decide +kernel)
set_option maxRecDepth 20000 in
theorem gX5_sendNews_X5_wayToList : GoodIn wsX5_sendNews (va_wsS RX5 212 yX5_wayToList wsX5_wayToList) := goodIn_app (goodIn_of _ (by decide +kernel)) ggX5_sendNews_X5_wayToList
set_option maxRecDepth 20000 in
theorem ggX5_sendNews_X5_send : GoodIn wsX5_sendNews wsX5_send := goodIn_r _ [9, 10, 11, 12, 13, 14, 15, 16, 17, 18, 19, 20, 21, 22, 23, 24, 25, 26, 27, 28, 29, 30, 31, 32, 41, 42, 43, 44, 45, 46, 47, 48, 49, 50, 51, 52, 53] (by decide +kernel) (by decide +kernel)
set_option maxRecDepth 20000 in
theorem gX5_sendNews_X5_send : GoodIn wsX5_sendNews (wsV RX5 156 RX5 yX5_send wsX5_send) := goodIn_app (goodIn_of _ (by decide +kernel)) ggX5_sendNews_X5_send
theorem dX5_sendNews_0 : decode cX5_sendNews 0 = .ok (.aload_n 0, 1) := by decide +kernel
theorem dX5_sendNews_1 : decode cX5_sendNews 1 = .ok (.iload_n 1, 1) := by decide +kernel
theorem dX5_sendNews_2 : decode cX5_sendNews 2 = .ok (.aload_n 2, 1) := by decide +kernel
theorem dX5_sendNews_3 : decode cX5_sendNews 3 = .ok (.getfield 149, 3) := by decide +kernel
theorem dX5_sendNews_6 : decode cX5_sendNews 6 = .ok (.invokestatic 212, 3) := by decide +kernel
theorem dX5_sendNews_9 : decode cX5_sendNews 9 = .ok (.aload_n 2, 1) := by decide +kernel
theorem dX5_sendNews_10 : decode cX5_sendNews 10 = .ok (.aconst_null, 1) := by decide +kernel
theorem dX5_sendNews_11 : decode cX5_sendNews 11 = .ok (.invokevirtual 156, 3) := by decide +kernel
theorem dX5_sendNews_14 : decode cX5_sendNews 14 = .ok (.pop, 1) := by decide +kernel
theorem dX5_sendNews_15 : decode cX5_sendNews 15 = .ok (.return_, 1) := by decide +kernel
set_option maxRecDepth 20000 in
theorem ggX5_arrivalsOfNextDay_X0_beginQuarter : GoodIn wsX5_arrivalsOfNextDay wsX0_beginQuarter := goodIn_r _ [9, 10, 164, 165, 166] (by decide +kernel) (by decide +kernel)
set_option maxRecDepth 20000 in
theorem gX5_arrivalsOfNextDay_X0_beginQuarter : GoodIn wsX5_arrivalsOfNextDay (wsV RX5 215 RX0 yX0_beginQuarter wsX0_beginQuarter) := goodIn_app (goodIn_of _ (by decide +kernel)) ggX5_arrivalsOfNextDay_X0_beginQuarter
set_option maxRecDepth 20000 in
theorem ggX5_arrivalsOfNextDay_X2_takeArrived : GoodIn wsX5_arrivalsOfNextDay wsX2_takeArrived := goodIn_r _ [15, 16, 17, 18, 162, 163, 167, 168, 169, 170] (by decide +kernel) (by decide +kernel)
set_option maxRecDepth 20000 in
theorem gX5_arrivalsOfNextDay_X2_takeArrived : GoodIn wsX5_arrivalsOfNextDay (wsV RX5 221 RX2 yX2_takeArrived wsX2_takeArrived) := goodIn_app (goodIn_of _ (by decide +kernel)) ggX5_arrivalsOfNextDay_X2_takeArrived
set_option maxRecDepth 20000 in
theorem ggX5_arrivalsOfNextDay_X5_deliver : GoodIn wsX5_arrivalsOfNextDay wsX5_deliver := goodIn_r _ [23, 24, 25, 26, 27, 28, 29, 30, 22, 31, 32, 33, 34, 35, 36, 37, 38, 39, 40, 41, 42, 43, 44, 45, 46, 47, 48, 49, 50, 51, 52, 53, 54, 55, 56, 57, 58, 59, 60, 61, 62, 63, 64, 65, 66, 67, 68, 69, 70, 71, 72, 73, 74, 75, 76, 77, 78, 79, 80, 81, 82, 83, 84, 1, 3, 85, 86, 87, 88, 89, 90, 91, 92, 93, 94, 95, 96, 97, 98, 99, 100, 14, 101, 16, 17, 18, 102, 103, 104, 105, 106, 107, 108, 109, 110, 111, 112, 113, 114, 2, 115, 116, 117, 8, 118, 119, 10, 120, 121, 122, 123, 124, 125, 126, 127, 128, 129, 130, 131, 132, 133, 134, 135, 136, 137, 138, 139, 140, 141, 142, 143, 144, 145, 146, 147, 148, 149, 150, 151, 152, 153, 154, 167, 168, 169, 170, 171, 172, 173, 174, 175, 176, 177, 178, 179, 180, 181, 182, 183, 184, 185, 155, 156, 157, 158, 159, 160, 161, 162, 163, 164, 165, 166] (by decide +kernel) (by decide +kernel)
set_option maxRecDepth 20000 in
theorem gX5_arrivalsOfNextDay_X5_deliver : GoodIn wsX5_arrivalsOfNextDay (wsV RX5 225 RX5 yX5_deliver wsX5_deliver) := goodIn_app (goodIn_of _ (by decide +kernel)) ggX5_arrivalsOfNextDay_X5_deliver
theorem dX5_arrivalsOfNextDay_0 : decode cX5_arrivalsOfNextDay 0 = .ok (.aload_n 0, 1) := by decide +kernel
theorem dX5_arrivalsOfNextDay_1 : decode cX5_arrivalsOfNextDay 1 = .ok (.dup, 1) := by decide +kernel
theorem dX5_arrivalsOfNextDay_2 : decode cX5_arrivalsOfNextDay 2 = .ok (.getfield 44, 3) := by decide +kernel
theorem dX5_arrivalsOfNextDay_5 : decode cX5_arrivalsOfNextDay 5 = .ok (.iconst 1, 1) := by decide +kernel
theorem dX5_arrivalsOfNextDay_6 : decode cX5_arrivalsOfNextDay 6 = .ok (.iadd, 1) := by decide +kernel
theorem dX5_arrivalsOfNextDay_7 : decode cX5_arrivalsOfNextDay 7 = .ok (.putfield 44, 3) := by decide +kernel
theorem dX5_arrivalsOfNextDay_10 : decode cX5_arrivalsOfNextDay 10 = .ok (.aload_n 0, 1) := by decide +kernel
theorem dX5_arrivalsOfNextDay_11 : decode cX5_arrivalsOfNextDay 11 = .ok (.getfield 44, 3) := by decide +kernel
theorem dX5_arrivalsOfNextDay_14 : decode cX5_arrivalsOfNextDay 14 = .ok (.bipush 90, 2) := by decide +kernel
theorem dX5_arrivalsOfNextDay_16 : decode cX5_arrivalsOfNextDay 16 = .ok (.irem, 1) := by decide +kernel
theorem dX5_arrivalsOfNextDay_17 : decode cX5_arrivalsOfNextDay 17 = .ok (.ifCond .ne 10, 3) := by decide +kernel
theorem dX5_arrivalsOfNextDay_20 : decode cX5_arrivalsOfNextDay 20 = .ok (.aload_n 0, 1) := by decide +kernel
theorem dX5_arrivalsOfNextDay_21 : decode cX5_arrivalsOfNextDay 21 = .ok (.getfield 33, 3) := by decide +kernel
theorem dX5_arrivalsOfNextDay_24 : decode cX5_arrivalsOfNextDay 24 = .ok (.invokevirtual 215, 3) := by decide +kernel
theorem dX5_arrivalsOfNextDay_27 : decode cX5_arrivalsOfNextDay 27 = .ok (.aload_n 0, 1) := by decide +kernel
theorem dX5_arrivalsOfNextDay_28 : decode cX5_arrivalsOfNextDay 28 = .ok (.getfield 26, 3) := by decide +kernel
theorem dX5_arrivalsOfNextDay_31 : decode cX5_arrivalsOfNextDay 31 = .ok (.getfield 218, 3) := by decide +kernel
theorem dX5_arrivalsOfNextDay_34 : decode cX5_arrivalsOfNextDay 34 = .ok (.istore_n 1, 1) := by decide +kernel
theorem dX5_arrivalsOfNextDay_35 : decode cX5_arrivalsOfNextDay 35 = .ok (.iconst 0, 1) := by decide +kernel
theorem dX5_arrivalsOfNextDay_36 : decode cX5_arrivalsOfNextDay 36 = .ok (.istore_n 2, 1) := by decide +kernel
theorem dX5_arrivalsOfNextDay_37 : decode cX5_arrivalsOfNextDay 37 = .ok (.iconst 0, 1) := by decide +kernel
theorem dX5_arrivalsOfNextDay_38 : decode cX5_arrivalsOfNextDay 38 = .ok (.istore_n 3, 1) := by decide +kernel
theorem dX5_arrivalsOfNextDay_39 : decode cX5_arrivalsOfNextDay 39 = .ok (.iload_n 3, 1) := by decide +kernel
theorem dX5_arrivalsOfNextDay_40 : decode cX5_arrivalsOfNextDay 40 = .ok (.iload_n 1, 1) := by decide +kernel
theorem dX5_arrivalsOfNextDay_41 : decode cX5_arrivalsOfNextDay 41 = .ok (.if_icmp .ge 39, 3) := by decide +kernel
theorem dX5_arrivalsOfNextDay_44 : decode cX5_arrivalsOfNextDay 44 = .ok (.aload_n 0, 1) := by decide +kernel
theorem dX5_arrivalsOfNextDay_45 : decode cX5_arrivalsOfNextDay 45 = .ok (.getfield 26, 3) := by decide +kernel
theorem dX5_arrivalsOfNextDay_48 : decode cX5_arrivalsOfNextDay 48 = .ok (.aload_n 0, 1) := by decide +kernel
theorem dX5_arrivalsOfNextDay_49 : decode cX5_arrivalsOfNextDay 49 = .ok (.getfield 44, 3) := by decide +kernel
theorem dX5_arrivalsOfNextDay_52 : decode cX5_arrivalsOfNextDay 52 = .ok (.invokevirtual 221, 3) := by decide +kernel
theorem dX5_arrivalsOfNextDay_55 : decode cX5_arrivalsOfNextDay 55 = .ok (.astore 4, 2) := by decide +kernel
theorem dX5_arrivalsOfNextDay_57 : decode cX5_arrivalsOfNextDay 57 = .ok (.aload 4, 2) := by decide +kernel
theorem dX5_arrivalsOfNextDay_59 : decode cX5_arrivalsOfNextDay 59 = .ok (.ifnonnull 6, 3) := by decide +kernel
theorem dX5_arrivalsOfNextDay_62 : decode cX5_arrivalsOfNextDay 62 = .ok (.goto 18, 3) := by decide +kernel
theorem dX5_arrivalsOfNextDay_65 : decode cX5_arrivalsOfNextDay 65 = .ok (.aload_n 0, 1) := by decide +kernel
theorem dX5_arrivalsOfNextDay_66 : decode cX5_arrivalsOfNextDay 66 = .ok (.aload 4, 2) := by decide +kernel
theorem dX5_arrivalsOfNextDay_68 : decode cX5_arrivalsOfNextDay 68 = .ok (.invokevirtual 225, 3) := by decide +kernel
theorem dX5_arrivalsOfNextDay_71 : decode cX5_arrivalsOfNextDay 71 = .ok (.iinc 2 1, 3) := by decide +kernel
theorem dX5_arrivalsOfNextDay_74 : decode cX5_arrivalsOfNextDay 74 = .ok (.iinc 3 1, 3) := by decide +kernel
theorem dX5_arrivalsOfNextDay_77 : decode cX5_arrivalsOfNextDay 77 = .ok (.goto (-38), 3) := by decide +kernel
theorem dX5_arrivalsOfNextDay_80 : decode cX5_arrivalsOfNextDay 80 = .ok (.iload_n 2, 1) := by decide +kernel
theorem dX5_arrivalsOfNextDay_81 : decode cX5_arrivalsOfNextDay 81 = .ok (.ireturn, 1) := by decide +kernel
set_option maxRecDepth 20000 in
theorem ggX5_deliver_X5_answerQuestion : GoodIn wsX5_deliver wsX5_answerQuestion := goodIn_r _ [9, 10, 11, 12, 13, 14, 15, 16, 17, 18, 19, 20, 21, 22, 23, 24, 25, 26, 27, 28, 29, 8, 30, 31, 32, 33, 34, 35, 36, 37, 38, 39, 40, 41, 42, 43, 44, 45, 46, 47, 48, 49, 50, 51, 52, 53, 54, 55, 56, 57, 58, 59, 60, 61, 62, 63, 64, 65, 66, 67, 68, 69, 70, 71, 72, 73, 74, 75, 76, 77, 78, 79, 80, 81, 82, 83, 84, 85, 86, 87, 88, 89, 90, 91, 92, 154, 155, 156, 157, 158, 159, 160, 146, 147, 148, 149, 150, 151, 152, 153, 161, 162, 163, 164, 165, 166, 167, 142, 143, 144, 145, 168, 169] (by decide +kernel) (by decide +kernel)
set_option maxRecDepth 20000 in
theorem gX5_deliver_X5_answerQuestion : GoodIn wsX5_deliver (wsV RX5 236 RX5 yX5_answerQuestion wsX5_answerQuestion) := goodIn_app (goodIn_of _ (by decide +kernel)) ggX5_deliver_X5_answerQuestion
set_option maxRecDepth 20000 in
theorem ggX5_deliver_X5_beginLoan : GoodIn wsX5_deliver wsX5_beginLoan := goodIn_r _ [96, 12, 97, 11, 10, 63, 98, 99, 13, 100, 101, 102, 103, 104, 105, 106, 107, 8, 108, 109, 110, 111, 112, 113, 154, 155, 156, 157, 158, 159, 160, 146, 147, 148, 149, 150, 151, 152, 153, 161, 162, 163, 164, 165, 166, 167, 170, 171, 172] (by decide +kernel) (by decide +kernel)
set_option maxRecDepth 20000 in
theorem gX5_deliver_X5_beginLoan : GoodIn wsX5_deliver (wsV RX5 240 RX5 yX5_beginLoan wsX5_beginLoan) := goodIn_app (goodIn_of _ (by decide +kernel)) ggX5_deliver_X5_beginLoan
set_option maxRecDepth 20000 in
theorem ggX5_deliver_X5_comeHome : GoodIn wsX5_deliver wsX5_comeHome := goodIn_r _ [117, 13, 97, 11, 10, 118, 119, 120, 8, 121, 122, 123, 99, 124, 125, 126, 17, 127, 128, 129, 110, 111, 103, 112, 113, 107, 108, 14, 15, 16, 18, 19, 20, 21, 22, 23, 24, 25, 26, 86, 87, 88, 89, 90, 91, 92, 59, 60, 61, 62, 63, 64, 65, 66, 67, 68, 69, 70, 71, 72, 73, 74, 75, 76, 77, 78, 79, 80, 81, 82, 83, 84, 85, 146, 147, 148, 149, 150, 151, 152, 153, 154, 155, 156, 157, 158, 159, 160, 161, 162, 163, 164, 165, 166, 167, 170, 171, 172, 142, 143, 144, 145, 168, 169] (by decide +kernel) (by decide +kernel)
set_option maxRecDepth 20000 in
theorem gX5_deliver_X5_comeHome : GoodIn wsX5_deliver (wsV RX5 243 RX5 yX5_comeHome wsX5_comeHome) := goodIn_app (goodIn_of _ (by decide +kernel)) ggX5_deliver_X5_comeHome
set_option maxRecDepth 20000 in
theorem ggX5_deliver_X5_prolong : GoodIn wsX5_deliver wsX5_prolong := goodIn_r _ [133, 10, 134, 98, 154, 155, 156, 157, 158, 159, 160] (by decide +kernel) (by decide +kernel)
set_option maxRecDepth 20000 in
theorem gX5_deliver_X5_prolong : GoodIn wsX5_deliver (wsV RX5 246 RX5 yX5_prolong wsX5_prolong) := goodIn_app (goodIn_of _ (by decide +kernel)) ggX5_deliver_X5_prolong
set_option maxRecDepth 20000 in
theorem ggX5_deliver_X5_shorten : GoodIn wsX5_deliver wsX5_shorten := goodIn_r _ [138, 10, 98, 63, 139, 140, 53, 141, 154, 155, 156, 157, 158, 159, 160, 161, 162, 163, 164, 165, 166, 167] (by decide +kernel) (by decide +kernel)
set_option maxRecDepth 20000 in
theorem gX5_deliver_X5_shorten : GoodIn wsX5_deliver (wsV RX5 249 RX5 yX5_shorten wsX5_shorten) := goodIn_app (goodIn_of _ (by decide +kernel)) ggX5_deliver_X5_shorten
theorem dX5_deliver_0 : decode cX5_deliver 0 = .ok (.aload_n 1, 1) := by decide +kernel
theorem dX5_deliver_1 : decode cX5_deliver 1 = .ok (.getfield 228, 3) := by decide +kernel
theorem dX5_deliver_4 : decode cX5_deliver 4 = .ok (.astore_n 2, 1) := by decide +kernel
theorem dX5_deliver_5 : decode cX5_deliver 5 = .ok (.aload_n 2, 1) := by decide +kernel
theorem dX5_deliver_6 : decode cX5_deliver 6 = .ok (.ifnonnull 4, 3) := by decide +kernel
theorem dX5_deliver_9 : decode cX5_deliver 9 = .ok (.return_, 1) := by decide +kernel
theorem dX5_deliver_10 : decode cX5_deliver 10 = .ok (.aload_n 1, 1) := by decide +kernel
theorem dX5_deliver_11 : decode cX5_deliver 11 = .ok (.getfield 229, 3) := by decide +kernel
theorem dX5_deliver_14 : decode cX5_deliver 14 = .ok (.astore_n 3, 1) := by decide +kernel
theorem dX5_deliver_15 : decode cX5_deliver 15 = .ok (.aload_n 3, 1) := by decide +kernel
theorem dX5_deliver_16 : decode cX5_deliver 16 = .ok (.ifnonnull 20, 3) := by decide +kernel
theorem dX5_deliver_19 : decode cX5_deliver 19 = .ok (.aload_n 2, 1) := by decide +kernel
theorem dX5_deliver_20 : decode cX5_deliver 20 = .ok (.aload_n 1, 1) := by decide +kernel
theorem dX5_deliver_21 : decode cX5_deliver 21 = .ok (.getfield 233, 3) := by decide +kernel
theorem dX5_deliver_24 : decode cX5_deliver 24 = .ok (.ifCond .ne 7, 3) := by decide +kernel
theorem dX5_deliver_27 : decode cX5_deliver 27 = .ok (.iconst 1, 1) := by decide +kernel
theorem dX5_deliver_28 : decode cX5_deliver 28 = .ok (.goto 4, 3) := by decide +kernel
theorem dX5_deliver_31 : decode cX5_deliver 31 = .ok (.iconst 0, 1) := by decide +kernel
theorem dX5_deliver_32 : decode cX5_deliver 32 = .ok (.putfield 87, 3) := by decide +kernel
theorem dX5_deliver_35 : decode cX5_deliver 35 = .ok (.return_, 1) := by decide +kernel
theorem dX5_deliver_36 : decode cX5_deliver 36 = .ok (.aload_n 1, 1) := by decide +kernel
theorem dX5_deliver_37 : decode cX5_deliver 37 = .ok (.getfield 233, 3) := by decide +kernel
theorem dX5_deliver_40 : decode cX5_deliver 40 = .ok (.tableswitch 79 2 6 #[36, 45, 54, 63, 71], 36) := by decide +kernel
theorem dX5_deliver_76 : decode cX5_deliver 76 = .ok (.aload_n 0, 1) := by decide +kernel
theorem dX5_deliver_77 : decode cX5_deliver 77 = .ok (.aload_n 2, 1) := by decide +kernel
theorem dX5_deliver_78 : decode cX5_deliver 78 = .ok (.aload_n 3, 1) := by decide +kernel
theorem dX5_deliver_79 : decode cX5_deliver 79 = .ok (.invokevirtual 236, 3) := by decide +kernel
theorem dX5_deliver_82 : decode cX5_deliver 82 = .ok (.goto 37, 3) := by decide +kernel
theorem dX5_deliver_85 : decode cX5_deliver 85 = .ok (.aload_n 0, 1) := by decide +kernel
theorem dX5_deliver_86 : decode cX5_deliver 86 = .ok (.aload_n 2, 1) := by decide +kernel
theorem dX5_deliver_87 : decode cX5_deliver 87 = .ok (.aload_n 3, 1) := by decide +kernel
theorem dX5_deliver_88 : decode cX5_deliver 88 = .ok (.invokevirtual 240, 3) := by decide +kernel
theorem dX5_deliver_91 : decode cX5_deliver 91 = .ok (.goto 28, 3) := by decide +kernel
theorem dX5_deliver_94 : decode cX5_deliver 94 = .ok (.aload_n 0, 1) := by decide +kernel
theorem dX5_deliver_95 : decode cX5_deliver 95 = .ok (.aload_n 2, 1) := by decide +kernel
theorem dX5_deliver_96 : decode cX5_deliver 96 = .ok (.aload_n 3, 1) := by decide +kernel
theorem dX5_deliver_97 : decode cX5_deliver 97 = .ok (.invokevirtual 243, 3) := by decide +kernel
theorem dX5_deliver_100 : decode cX5_deliver 100 = .ok (.goto 19, 3) := by decide +kernel
theorem dX5_deliver_103 : decode cX5_deliver 103 = .ok (.aload_n 0, 1) := by decide +kernel
theorem dX5_deliver_104 : decode cX5_deliver 104 = .ok (.aload_n 3, 1) := by decide +kernel
theorem dX5_deliver_105 : decode cX5_deliver 105 = .ok (.invokevirtual 246, 3) := by decide +kernel
theorem dX5_deliver_108 : decode cX5_deliver 108 = .ok (.goto 11, 3) := by decide +kernel
theorem dX5_deliver_111 : decode cX5_deliver 111 = .ok (.aload_n 0, 1) := by decide +kernel
theorem dX5_deliver_112 : decode cX5_deliver 112 = .ok (.aload_n 3, 1) := by decide +kernel
theorem dX5_deliver_113 : decode cX5_deliver 113 = .ok (.invokevirtual 249, 3) := by decide +kernel
theorem dX5_deliver_116 : decode cX5_deliver 116 = .ok (.goto 3, 3) := by decide +kernel
theorem dX5_deliver_119 : decode cX5_deliver 119 = .ok (.return_, 1) := by decide +kernel
set_option maxRecDepth 20000 in
theorem ggX5_askNextHome_X5_nearestListedFree : GoodIn wsX5_askNextHome wsX5_nearestListedFree := goodIn_r _ [9, 10, 4, 3, 11, 12, 13, 14, 15, 16, 17, 18, 19, 20, 21, 22, 23, 8, 24, 25, 26, 27, 28, 75, 76, 77, 78, 79, 80, 81, 60, 61, 62, 63, 64, 65, 66, 67, 68, 69, 70, 71, 72, 73, 74] (by decide +kernel) (by decide +kernel)
set_option maxRecDepth 20000 in
theorem gX5_askNextHome_X5_nearestListedFree : GoodIn wsX5_askNextHome (wsV RX5 252 RX5 yX5_nearestListedFree wsX5_nearestListedFree) := goodIn_app (goodIn_of _ (by decide +kernel)) ggX5_askNextHome_X5_nearestListedFree
set_option maxRecDepth 20000 in
theorem ggX5_askNextHome_X3_markAsked : GoodIn wsX5_askNextHome wsX3_markAsked := goodIn_r _ [32, 16, 60, 61, 62, 63, 64, 65, 66] (by decide +kernel) (by decide +kernel)
set_option maxRecDepth 20000 in
theorem gX5_askNextHome_X3_markAsked : GoodIn wsX5_askNextHome (wsV RX5 256 RX3 yX3_markAsked wsX3_markAsked) := goodIn_app (goodIn_of _ (by decide +kernel)) ggX5_askNextHome_X3_markAsked
set_option maxRecDepth 20000 in
theorem ggX5_askNextHome_X5_way : GoodIn wsX5_askNextHome wsX5_way := goodIn_r _ [24, 25, 26, 27, 28] (by decide +kernel) (by decide +kernel)
set_option maxRecDepth 20000 in
theorem gX5_askNextHome_X5_way : GoodIn wsX5_askNextHome (va_wsS RX5 152 yX5_way wsX5_way) := goodIn_app (goodIn_of _ (by decide +kernel)) ggX5_askNextHome_X5_way
set_option maxRecDepth 20000 in
theorem ggX5_askNextHome_X5_send : GoodIn wsX5_askNextHome wsX5_send := goodIn_r _ [36, 37, 38, 39, 40, 41, 42, 43, 44, 45, 46, 47, 48, 49, 50, 51, 52, 53, 54, 55, 56, 57, 58, 59, 75, 76, 77, 78, 79, 80, 81, 82, 83, 84, 85, 86, 87] (by decide +kernel) (by decide +kernel)
set_option maxRecDepth 20000 in
theorem gX5_askNextHome_X5_send : GoodIn wsX5_askNextHome (wsV RX5 156 RX5 yX5_send wsX5_send) := goodIn_app (goodIn_of _ (by decide +kernel)) ggX5_askNextHome_X5_send
theorem dX5_askNextHome_0 : decode cX5_askNextHome 0 = .ok (.aload_n 0, 1) := by decide +kernel
theorem dX5_askNextHome_1 : decode cX5_askNextHome 1 = .ok (.aload_n 1, 1) := by decide +kernel
theorem dX5_askNextHome_2 : decode cX5_askNextHome 2 = .ok (.invokevirtual 252, 3) := by decide +kernel
theorem dX5_askNextHome_5 : decode cX5_askNextHome 5 = .ok (.astore_n 2, 1) := by decide +kernel
theorem dX5_askNextHome_6 : decode cX5_askNextHome 6 = .ok (.aload_n 1, 1) := by decide +kernel
theorem dX5_askNextHome_7 : decode cX5_askNextHome 7 = .ok (.aload_n 2, 1) := by decide +kernel
theorem dX5_askNextHome_8 : decode cX5_askNextHome 8 = .ok (.putfield 134, 3) := by decide +kernel
theorem dX5_askNextHome_11 : decode cX5_askNextHome 11 = .ok (.aload_n 2, 1) := by decide +kernel
theorem dX5_askNextHome_12 : decode cX5_askNextHome 12 = .ok (.ifnonnull 9, 3) := by decide +kernel
theorem dX5_askNextHome_15 : decode cX5_askNextHome 15 = .ok (.aload_n 1, 1) := by decide +kernel
theorem dX5_askNextHome_16 : decode cX5_askNextHome 16 = .ok (.iconst 5, 1) := by decide +kernel
theorem dX5_askNextHome_17 : decode cX5_askNextHome 17 = .ok (.putfield 131, 3) := by decide +kernel
theorem dX5_askNextHome_20 : decode cX5_askNextHome 20 = .ok (.return_, 1) := by decide +kernel
theorem dX5_askNextHome_21 : decode cX5_askNextHome 21 = .ok (.aload_n 1, 1) := by decide +kernel
theorem dX5_askNextHome_22 : decode cX5_askNextHome 22 = .ok (.aload_n 2, 1) := by decide +kernel
theorem dX5_askNextHome_23 : decode cX5_askNextHome 23 = .ok (.getfield 149, 3) := by decide +kernel
theorem dX5_askNextHome_26 : decode cX5_askNextHome 26 = .ok (.invokevirtual 256, 3) := by decide +kernel
theorem dX5_askNextHome_29 : decode cX5_askNextHome 29 = .ok (.aload_n 0, 1) := by decide +kernel
theorem dX5_askNextHome_30 : decode cX5_askNextHome 30 = .ok (.iconst 2, 1) := by decide +kernel
theorem dX5_askNextHome_31 : decode cX5_askNextHome 31 = .ok (.aload_n 1, 1) := by decide +kernel
theorem dX5_askNextHome_32 : decode cX5_askNextHome 32 = .ok (.getfield 146, 3) := by decide +kernel
theorem dX5_askNextHome_35 : decode cX5_askNextHome 35 = .ok (.aload_n 2, 1) := by decide +kernel
theorem dX5_askNextHome_36 : decode cX5_askNextHome 36 = .ok (.getfield 149, 3) := by decide +kernel
theorem dX5_askNextHome_39 : decode cX5_askNextHome 39 = .ok (.invokestatic 152, 3) := by decide +kernel
theorem dX5_askNextHome_42 : decode cX5_askNextHome 42 = .ok (.aload_n 2, 1) := by decide +kernel
theorem dX5_askNextHome_43 : decode cX5_askNextHome 43 = .ok (.aload_n 1, 1) := by decide +kernel
theorem dX5_askNextHome_44 : decode cX5_askNextHome 44 = .ok (.invokevirtual 156, 3) := by decide +kernel
theorem dX5_askNextHome_47 : decode cX5_askNextHome 47 = .ok (.pop, 1) := by decide +kernel
theorem dX5_askNextHome_48 : decode cX5_askNextHome 48 = .ok (.return_, 1) := by decide +kernel
set_option maxRecDepth 20000 in
theorem ggX5_nearestListedFree_X3_mayAskFor : GoodIn wsX5_nearestListedFree wsX3_mayAskFor := goodIn_r _ [8, 9, 10, 11, 12, 13, 14, 30, 31, 32, 33, 34, 35, 36, 37, 38, 39, 40, 41, 42, 43, 44] (by decide +kernel) (by decide +kernel)
set_option maxRecDepth 20000 in
theorem gX5_nearestListedFree_X3_mayAskFor : GoodIn wsX5_nearestListedFree (wsV RX5 259 RX3 yX3_mayAskFor wsX3_mayAskFor) := goodIn_app (goodIn_of _ (by decide +kernel)) ggX5_nearestListedFree_X3_mayAskFor
set_option maxRecDepth 20000 in
theorem ggX5_nearestListedFree_X5_way : GoodIn wsX5_nearestListedFree wsX5_way := goodIn_r _ [18, 19, 20, 21, 22] (by decide +kernel) (by decide +kernel)
set_option maxRecDepth 20000 in
theorem gX5_nearestListedFree_X5_way : GoodIn wsX5_nearestListedFree (va_wsS RX5 152 yX5_way wsX5_way) := goodIn_app (goodIn_of _ (by decide +kernel)) ggX5_nearestListedFree_X5_way
theorem dX5_nearestListedFree_0 : decode cX5_nearestListedFree 0 = .ok (.aconst_null, 1) := by decide +kernel
theorem dX5_nearestListedFree_1 : decode cX5_nearestListedFree 1 = .ok (.astore_n 2, 1) := by decide +kernel
theorem dX5_nearestListedFree_2 : decode cX5_nearestListedFree 2 = .ok (.iconst 0, 1) := by decide +kernel
theorem dX5_nearestListedFree_3 : decode cX5_nearestListedFree 3 = .ok (.istore_n 3, 1) := by decide +kernel
theorem dX5_nearestListedFree_4 : decode cX5_nearestListedFree 4 = .ok (.aload_n 0, 1) := by decide +kernel
theorem dX5_nearestListedFree_5 : decode cX5_nearestListedFree 5 = .ok (.getfield 11, 3) := by decide +kernel
theorem dX5_nearestListedFree_8 : decode cX5_nearestListedFree 8 = .ok (.astore 4, 2) := by decide +kernel
theorem dX5_nearestListedFree_10 : decode cX5_nearestListedFree 10 = .ok (.aload 4, 2) := by decide +kernel
theorem dX5_nearestListedFree_12 : decode cX5_nearestListedFree 12 = .ok (.arraylength, 1) := by decide +kernel
theorem dX5_nearestListedFree_13 : decode cX5_nearestListedFree 13 = .ok (.istore 5, 2) := by decide +kernel
theorem dX5_nearestListedFree_15 : decode cX5_nearestListedFree 15 = .ok (.iconst 0, 1) := by decide +kernel
theorem dX5_nearestListedFree_16 : decode cX5_nearestListedFree 16 = .ok (.istore 6, 2) := by decide +kernel
theorem dX5_nearestListedFree_18 : decode cX5_nearestListedFree 18 = .ok (.iload 6, 2) := by decide +kernel
theorem dX5_nearestListedFree_20 : decode cX5_nearestListedFree 20 = .ok (.iload 5, 2) := by decide +kernel
theorem dX5_nearestListedFree_22 : decode cX5_nearestListedFree 22 = .ok (.if_icmp .ge 63, 3) := by decide +kernel
theorem dX5_nearestListedFree_25 : decode cX5_nearestListedFree 25 = .ok (.aload 4, 2) := by decide +kernel
theorem dX5_nearestListedFree_27 : decode cX5_nearestListedFree 27 = .ok (.iload 6, 2) := by decide +kernel
theorem dX5_nearestListedFree_29 : decode cX5_nearestListedFree 29 = .ok (.aaload, 1) := by decide +kernel
theorem dX5_nearestListedFree_30 : decode cX5_nearestListedFree 30 = .ok (.astore 7, 2) := by decide +kernel
theorem dX5_nearestListedFree_32 : decode cX5_nearestListedFree 32 = .ok (.aload 7, 2) := by decide +kernel
theorem dX5_nearestListedFree_34 : decode cX5_nearestListedFree 34 = .ok (.ifnull 45, 3) := by decide +kernel
theorem dX5_nearestListedFree_37 : decode cX5_nearestListedFree 37 = .ok (.aload_n 1, 1) := by decide +kernel
theorem dX5_nearestListedFree_38 : decode cX5_nearestListedFree 38 = .ok (.aload 7, 2) := by decide +kernel
theorem dX5_nearestListedFree_40 : decode cX5_nearestListedFree 40 = .ok (.invokevirtual 259, 3) := by decide +kernel
theorem dX5_nearestListedFree_43 : decode cX5_nearestListedFree 43 = .ok (.ifCond .ne 6, 3) := by decide +kernel
theorem dX5_nearestListedFree_46 : decode cX5_nearestListedFree 46 = .ok (.goto 33, 3) := by decide +kernel
theorem dX5_nearestListedFree_49 : decode cX5_nearestListedFree 49 = .ok (.aload_n 1, 1) := by decide +kernel
theorem dX5_nearestListedFree_50 : decode cX5_nearestListedFree 50 = .ok (.getfield 146, 3) := by decide +kernel
theorem dX5_nearestListedFree_53 : decode cX5_nearestListedFree 53 = .ok (.aload 7, 2) := by decide +kernel
theorem dX5_nearestListedFree_55 : decode cX5_nearestListedFree 55 = .ok (.getfield 149, 3) := by decide +kernel
theorem dX5_nearestListedFree_58 : decode cX5_nearestListedFree 58 = .ok (.invokestatic 152, 3) := by decide +kernel
theorem dX5_nearestListedFree_61 : decode cX5_nearestListedFree 61 = .ok (.istore 8, 2) := by decide +kernel
theorem dX5_nearestListedFree_63 : decode cX5_nearestListedFree 63 = .ok (.aload_n 2, 1) := by decide +kernel
theorem dX5_nearestListedFree_64 : decode cX5_nearestListedFree 64 = .ok (.ifnull 9, 3) := by decide +kernel
theorem dX5_nearestListedFree_67 : decode cX5_nearestListedFree 67 = .ok (.iload 8, 2) := by decide +kernel
theorem dX5_nearestListedFree_69 : decode cX5_nearestListedFree 69 = .ok (.iload_n 3, 1) := by decide +kernel
theorem dX5_nearestListedFree_70 : decode cX5_nearestListedFree 70 = .ok (.if_icmp .ge 9, 3) := by decide +kernel
theorem dX5_nearestListedFree_73 : decode cX5_nearestListedFree 73 = .ok (.aload 7, 2) := by decide +kernel
theorem dX5_nearestListedFree_75 : decode cX5_nearestListedFree 75 = .ok (.astore_n 2, 1) := by decide +kernel
theorem dX5_nearestListedFree_76 : decode cX5_nearestListedFree 76 = .ok (.iload 8, 2) := by decide +kernel
theorem dX5_nearestListedFree_78 : decode cX5_nearestListedFree 78 = .ok (.istore_n 3, 1) := by decide +kernel
theorem dX5_nearestListedFree_79 : decode cX5_nearestListedFree 79 = .ok (.iinc 6 1, 3) := by decide +kernel
theorem dX5_nearestListedFree_82 : decode cX5_nearestListedFree 82 = .ok (.goto (-64), 3) := by decide +kernel
theorem dX5_nearestListedFree_85 : decode cX5_nearestListedFree 85 = .ok (.aload_n 2, 1) := by decide +kernel
theorem dX5_nearestListedFree_86 : decode cX5_nearestListedFree 86 = .ok (.areturn, 1) := by decide +kernel
set_option maxRecDepth 20000 in
theorem ggX5_answerQuestion_X1_canBeSent : GoodIn wsX5_answerQuestion wsX1_canBeSent := goodIn_r _ [9, 10, 11, 12, 13, 8, 14, 15, 16, 17, 92, 93, 94, 95, 96, 97, 98, 99] (by decide +kernel) (by decide +kernel)
set_option maxRecDepth 20000 in
theorem gX5_answerQuestion_X1_canBeSent : GoodIn wsX5_answerQuestion (wsV RX5 83 RX1 yX1_canBeSent wsX1_canBeSent) := goodIn_app (goodIn_of _ (by decide +kernel)) ggX5_answerQuestion_X1_canBeSent
set_option maxRecDepth 20000 in
theorem ggX5_answerQuestion_X5_askNextHome : GoodIn wsX5_answerQuestion wsX5_askNextHome := goodIn_r _ [22, 23, 1, 4, 3, 24, 25, 26, 21, 27, 28, 29, 30, 31, 32, 33, 34, 35, 36, 37, 38, 39, 40, 41, 42, 43, 44, 45, 46, 47, 48, 49, 50, 51, 52, 53, 54, 55, 56, 57, 58, 59, 60, 61, 62, 63, 64, 65, 66, 67, 68, 69, 70, 71, 72, 73, 74, 75, 76, 77, 85, 86, 87, 88, 89, 90, 91, 92, 93, 94, 95, 96, 97, 98, 99, 100, 101, 102, 103, 104, 105, 106, 107, 108, 109, 110, 111, 112] (by decide +kernel) (by decide +kernel)
set_option maxRecDepth 20000 in
theorem gX5_answerQuestion_X5_askNextHome : GoodIn wsX5_answerQuestion (wsV RX5 123 RX5 yX5_askNextHome wsX5_askNextHome) := goodIn_app (goodIn_of _ (by decide +kernel)) ggX5_answerQuestion_X5_askNextHome
set_option maxRecDepth 20000 in
theorem ggX5_answerQuestion_X5_way : GoodIn wsX5_answerQuestion wsX5_way := goodIn_r _ [42, 43, 44, 45, 46] (by decide +kernel) (by decide +kernel)
set_option maxRecDepth 20000 in
theorem gX5_answerQuestion_X5_way : GoodIn wsX5_answerQuestion (va_wsS RX5 152 yX5_way wsX5_way) := goodIn_app (goodIn_of _ (by decide +kernel)) ggX5_answerQuestion_X5_way
set_option maxRecDepth 20000 in
theorem ggX5_answerQuestion_X5_send : GoodIn wsX5_answerQuestion wsX5_send := goodIn_r _ [54, 55, 56, 57, 58, 59, 60, 61, 62, 63, 64, 65, 66, 67, 68, 69, 70, 71, 72, 73, 74, 75, 76, 77, 100, 101, 102, 103, 104, 105, 106, 107, 108, 109, 110, 111, 112] (by decide +kernel) (by decide +kernel)
set_option maxRecDepth 20000 in
theorem gX5_answerQuestion_X5_send : GoodIn wsX5_answerQuestion (wsV RX5 156 RX5 yX5_send wsX5_send) := goodIn_app (goodIn_of _ (by decide +kernel)) ggX5_answerQuestion_X5_send
set_option maxRecDepth 20000 in
theorem ggX5_answerQuestion_X5_sendNews : GoodIn wsX5_answerQuestion wsX5_sendNews := goodIn_r _ [81, 4, 82, 83, 21, 84, 51, 52, 53, 54, 55, 56, 57, 58, 59, 60, 61, 62, 63, 64, 65, 66, 67, 68, 69, 70, 71, 72, 73, 74, 75, 76, 77, 92, 93, 94, 95, 96, 97, 98, 99, 100, 101, 102, 103, 104, 105, 106, 107, 108, 109, 110, 111, 112] (by decide +kernel) (by decide +kernel)
set_option maxRecDepth 20000 in
theorem gX5_answerQuestion_X5_sendNews : GoodIn wsX5_answerQuestion (wsV RX5 72 RX5 yX5_sendNews wsX5_sendNews) := goodIn_app (goodIn_of _ (by decide +kernel)) ggX5_answerQuestion_X5_sendNews
theorem dX5_answerQuestion_0 : decode cX5_answerQuestion 0 = .ok (.aload_n 1, 1) := by decide +kernel
theorem dX5_answerQuestion_1 : decode cX5_answerQuestion 1 = .ok (.invokevirtual 83, 3) := by decide +kernel
theorem dX5_answerQuestion_4 : decode cX5_answerQuestion 4 = .ok (.ifCond .ne 9, 3) := by decide +kernel
theorem dX5_answerQuestion_7 : decode cX5_answerQuestion 7 = .ok (.aload_n 0, 1) := by decide +kernel
theorem dX5_answerQuestion_8 : decode cX5_answerQuestion 8 = .ok (.aload_n 2, 1) := by decide +kernel
theorem dX5_answerQuestion_9 : decode cX5_answerQuestion 9 = .ok (.invokevirtual 123, 3) := by decide +kernel
theorem dX5_answerQuestion_12 : decode cX5_answerQuestion 12 = .ok (.return_, 1) := by decide +kernel
theorem dX5_answerQuestion_13 : decode cX5_answerQuestion 13 = .ok (.aload_n 2, 1) := by decide +kernel
theorem dX5_answerQuestion_14 : decode cX5_answerQuestion 14 = .ok (.iconst 1, 1) := by decide +kernel
theorem dX5_answerQuestion_15 : decode cX5_answerQuestion 15 = .ok (.putfield 131, 3) := by decide +kernel
theorem dX5_answerQuestion_18 : decode cX5_answerQuestion 18 = .ok (.aload_n 1, 1) := by decide +kernel
theorem dX5_answerQuestion_19 : decode cX5_answerQuestion 19 = .ok (.iconst 1, 1) := by decide +kernel
theorem dX5_answerQuestion_20 : decode cX5_answerQuestion 20 = .ok (.putfield 98, 3) := by decide +kernel
theorem dX5_answerQuestion_23 : decode cX5_answerQuestion 23 = .ok (.aload_n 0, 1) := by decide +kernel
theorem dX5_answerQuestion_24 : decode cX5_answerQuestion 24 = .ok (.iconst 3, 1) := by decide +kernel
theorem dX5_answerQuestion_25 : decode cX5_answerQuestion 25 = .ok (.aload_n 2, 1) := by decide +kernel
theorem dX5_answerQuestion_26 : decode cX5_answerQuestion 26 = .ok (.getfield 146, 3) := by decide +kernel
theorem dX5_answerQuestion_29 : decode cX5_answerQuestion 29 = .ok (.aload_n 1, 1) := by decide +kernel
theorem dX5_answerQuestion_30 : decode cX5_answerQuestion 30 = .ok (.getfield 149, 3) := by decide +kernel
theorem dX5_answerQuestion_33 : decode cX5_answerQuestion 33 = .ok (.invokestatic 152, 3) := by decide +kernel
theorem dX5_answerQuestion_36 : decode cX5_answerQuestion 36 = .ok (.aload_n 1, 1) := by decide +kernel
theorem dX5_answerQuestion_37 : decode cX5_answerQuestion 37 = .ok (.aload_n 2, 1) := by decide +kernel
theorem dX5_answerQuestion_38 : decode cX5_answerQuestion 38 = .ok (.invokevirtual 156, 3) := by decide +kernel
theorem dX5_answerQuestion_41 : decode cX5_answerQuestion 41 = .ok (.pop, 1) := by decide +kernel
theorem dX5_answerQuestion_42 : decode cX5_answerQuestion 42 = .ok (.aload_n 0, 1) := by decide +kernel
theorem dX5_answerQuestion_43 : decode cX5_answerQuestion 43 = .ok (.iconst 1, 1) := by decide +kernel
theorem dX5_answerQuestion_44 : decode cX5_answerQuestion 44 = .ok (.aload_n 1, 1) := by decide +kernel
theorem dX5_answerQuestion_45 : decode cX5_answerQuestion 45 = .ok (.invokevirtual 72, 3) := by decide +kernel
theorem dX5_answerQuestion_48 : decode cX5_answerQuestion 48 = .ok (.return_, 1) := by decide +kernel
set_option maxRecDepth 20000 in
theorem ggX5_beginLoan_X0_chargeLoan : GoodIn wsX5_beginLoan wsX0_chargeLoan := goodIn_r _ [13, 14, 15, 16, 17, 18, 19, 20, 21, 12, 22, 23, 46, 47, 48] (by decide +kernel) (by decide +kernel)
set_option maxRecDepth 20000 in
theorem gX5_beginLoan_X0_chargeLoan : GoodIn wsX5_beginLoan (wsV RX5 263 RX0 yX0_chargeLoan wsX0_chargeLoan) := goodIn_app (goodIn_of _ (by decide +kernel)) ggX5_beginLoan_X0_chargeLoan
theorem dX5_beginLoan_0 : decode cX5_beginLoan 0 = .ok (.aload_n 1, 1) := by decide +kernel
theorem dX5_beginLoan_1 : decode cX5_beginLoan 1 = .ok (.aload_n 2, 1) := by decide +kernel
theorem dX5_beginLoan_2 : decode cX5_beginLoan 2 = .ok (.getfield 146, 3) := by decide +kernel
theorem dX5_beginLoan_5 : decode cX5_beginLoan 5 = .ok (.putfield 80, 3) := by decide +kernel
theorem dX5_beginLoan_8 : decode cX5_beginLoan 8 = .ok (.aload_n 1, 1) := by decide +kernel
theorem dX5_beginLoan_9 : decode cX5_beginLoan 9 = .ok (.iconst 0, 1) := by decide +kernel
theorem dX5_beginLoan_10 : decode cX5_beginLoan 10 = .ok (.putfield 98, 3) := by decide +kernel
theorem dX5_beginLoan_13 : decode cX5_beginLoan 13 = .ok (.aload_n 2, 1) := by decide +kernel
theorem dX5_beginLoan_14 : decode cX5_beginLoan 14 = .ok (.iconst 2, 1) := by decide +kernel
theorem dX5_beginLoan_15 : decode cX5_beginLoan 15 = .ok (.putfield 131, 3) := by decide +kernel
theorem dX5_beginLoan_18 : decode cX5_beginLoan 18 = .ok (.aload_n 2, 1) := by decide +kernel
theorem dX5_beginLoan_19 : decode cX5_beginLoan 19 = .ok (.aload_n 0, 1) := by decide +kernel
theorem dX5_beginLoan_20 : decode cX5_beginLoan 20 = .ok (.getfield 44, 3) := by decide +kernel
theorem dX5_beginLoan_23 : decode cX5_beginLoan 23 = .ok (.bipush 20, 2) := by decide +kernel
theorem dX5_beginLoan_25 : decode cX5_beginLoan 25 = .ok (.iadd, 1) := by decide +kernel
theorem dX5_beginLoan_26 : decode cX5_beginLoan 26 = .ok (.putfield 143, 3) := by decide +kernel
theorem dX5_beginLoan_29 : decode cX5_beginLoan 29 = .ok (.aload_n 0, 1) := by decide +kernel
theorem dX5_beginLoan_30 : decode cX5_beginLoan 30 = .ok (.getfield 33, 3) := by decide +kernel
theorem dX5_beginLoan_33 : decode cX5_beginLoan 33 = .ok (.aload_n 2, 1) := by decide +kernel
theorem dX5_beginLoan_34 : decode cX5_beginLoan 34 = .ok (.getfield 146, 3) := by decide +kernel
theorem dX5_beginLoan_37 : decode cX5_beginLoan 37 = .ok (.aload_n 1, 1) := by decide +kernel
theorem dX5_beginLoan_38 : decode cX5_beginLoan 38 = .ok (.getfield 149, 3) := by decide +kernel
theorem dX5_beginLoan_41 : decode cX5_beginLoan 41 = .ok (.invokevirtual 263, 3) := by decide +kernel
theorem dX5_beginLoan_44 : decode cX5_beginLoan 44 = .ok (.return_, 1) := by decide +kernel
theorem dX5_prolong_0 : decode cX5_prolong 0 = .ok (.aload_n 1, 1) := by decide +kernel
theorem dX5_prolong_1 : decode cX5_prolong 1 = .ok (.getfield 131, 3) := by decide +kernel
theorem dX5_prolong_4 : decode cX5_prolong 4 = .ok (.iconst 2, 1) := by decide +kernel
theorem dX5_prolong_5 : decode cX5_prolong 5 = .ok (.if_icmp .ne 21, 3) := by decide +kernel
theorem dX5_prolong_8 : decode cX5_prolong 8 = .ok (.aload_n 1, 1) := by decide +kernel
theorem dX5_prolong_9 : decode cX5_prolong 9 = .ok (.getfield 160, 3) := by decide +kernel
theorem dX5_prolong_12 : decode cX5_prolong 12 = .ok (.ifCond .ne 14, 3) := by decide +kernel
theorem dX5_prolong_15 : decode cX5_prolong 15 = .ok (.aload_n 1, 1) := by decide +kernel
theorem dX5_prolong_16 : decode cX5_prolong 16 = .ok (.dup, 1) := by decide +kernel
theorem dX5_prolong_17 : decode cX5_prolong 17 = .ok (.getfield 143, 3) := by decide +kernel
theorem dX5_prolong_20 : decode cX5_prolong 20 = .ok (.bipush 20, 2) := by decide +kernel
theorem dX5_prolong_22 : decode cX5_prolong 22 = .ok (.iadd, 1) := by decide +kernel
theorem dX5_prolong_23 : decode cX5_prolong 23 = .ok (.putfield 143, 3) := by decide +kernel
theorem dX5_prolong_26 : decode cX5_prolong 26 = .ok (.return_, 1) := by decide +kernel
theorem dX5_shorten_0 : decode cX5_shorten 0 = .ok (.aload_n 1, 1) := by decide +kernel
theorem dX5_shorten_1 : decode cX5_shorten 1 = .ok (.getfield 131, 3) := by decide +kernel
theorem dX5_shorten_4 : decode cX5_shorten 4 = .ok (.iconst 2, 1) := by decide +kernel
theorem dX5_shorten_5 : decode cX5_shorten 5 = .ok (.if_icmp .ne 20, 3) := by decide +kernel
theorem dX5_shorten_8 : decode cX5_shorten 8 = .ok (.aload_n 1, 1) := by decide +kernel
theorem dX5_shorten_9 : decode cX5_shorten 9 = .ok (.aload_n 1, 1) := by decide +kernel
theorem dX5_shorten_10 : decode cX5_shorten 10 = .ok (.getfield 143, 3) := by decide +kernel
theorem dX5_shorten_13 : decode cX5_shorten 13 = .ok (.aload_n 0, 1) := by decide +kernel
theorem dX5_shorten_14 : decode cX5_shorten 14 = .ok (.getfield 44, 3) := by decide +kernel
theorem dX5_shorten_17 : decode cX5_shorten 17 = .ok (.iconst 5, 1) := by decide +kernel
theorem dX5_shorten_18 : decode cX5_shorten 18 = .ok (.iadd, 1) := by decide +kernel
theorem dX5_shorten_19 : decode cX5_shorten 19 = .ok (.invokestatic 266, 3) := by decide +kernel
theorem dX5_shorten_22 : decode cX5_shorten 22 = .ok (.putfield 143, 3) := by decide +kernel
theorem dX5_shorten_25 : decode cX5_shorten 25 = .ok (.return_, 1) := by decide +kernel
set_option maxRecDepth 20000 in
theorem ggX5_comeHome_X5_examine : GoodIn wsX5_comeHome wsX5_examine := goodIn_r _ [9, 10, 11, 1, 12, 13, 14, 15, 16, 17, 18, 19, 20, 21, 22, 23, 24, 25, 8, 26, 73, 74, 75, 76, 77, 78, 79, 80, 88, 89, 90, 91, 92, 93, 94, 95, 96, 97] (by decide +kernel) (by decide +kernel)
set_option maxRecDepth 20000 in
theorem gX5_comeHome_X5_examine : GoodIn wsX5_comeHome (wsV RX5 104 RX5 yX5_examine wsX5_examine) := goodIn_app (goodIn_of _ (by decide +kernel)) ggX5_comeHome_X5_examine
set_option maxRecDepth 20000 in
theorem ggX5_comeHome_X1_canBeSent : GoodIn wsX5_comeHome wsX1_canBeSent := goodIn_r _ [30, 31, 32, 33, 34, 16, 35, 36, 37, 38, 73, 74, 75, 76, 77, 78, 79, 80] (by decide +kernel) (by decide +kernel)
set_option maxRecDepth 20000 in
theorem gX5_comeHome_X1_canBeSent : GoodIn wsX5_comeHome (wsV RX5 83 RX1 yX1_canBeSent wsX1_canBeSent) := goodIn_app (goodIn_of _ (by decide +kernel)) ggX5_comeHome_X1_canBeSent
set_option maxRecDepth 20000 in
theorem ggX5_comeHome_X5_sendNews : GoodIn wsX5_comeHome wsX5_sendNews := goodIn_r _ [42, 1, 43, 44, 8, 45, 46, 47, 48, 49, 50, 51, 52, 53, 54, 55, 56, 57, 58, 59, 60, 61, 62, 63, 64, 65, 66, 67, 68, 69, 70, 71, 72, 73, 74, 75, 76, 77, 78, 79, 80, 88, 89, 90, 91, 92, 93, 94, 98, 99, 100, 101, 102, 103] (by decide +kernel) (by decide +kernel)
set_option maxRecDepth 20000 in
theorem gX5_comeHome_X5_sendNews : GoodIn wsX5_comeHome (wsV RX5 72 RX5 yX5_sendNews wsX5_sendNews) := goodIn_app (goodIn_of _ (by decide +kernel)) ggX5_comeHome_X5_sendNews
theorem dX5_comeHome_0 : decode cX5_comeHome 0 = .ok (.aload_n 1, 1) := by decide +kernel
theorem dX5_comeHome_1 : decode cX5_comeHome 1 = .ok (.aload_n 1, 1) := by decide +kernel
theorem dX5_comeHome_2 : decode cX5_comeHome 2 = .ok (.getfield 149, 3) := by decide +kernel
theorem dX5_comeHome_5 : decode cX5_comeHome 5 = .ok (.putfield 80, 3) := by decide +kernel
theorem dX5_comeHome_8 : decode cX5_comeHome 8 = .ok (.aload_n 1, 1) := by decide +kernel
theorem dX5_comeHome_9 : decode cX5_comeHome 9 = .ok (.iconst 0, 1) := by decide +kernel
theorem dX5_comeHome_10 : decode cX5_comeHome 10 = .ok (.putfield 98, 3) := by decide +kernel
theorem dX5_comeHome_13 : decode cX5_comeHome 13 = .ok (.aload_n 2, 1) := by decide +kernel
theorem dX5_comeHome_14 : decode cX5_comeHome 14 = .ok (.iconst 4, 1) := by decide +kernel
theorem dX5_comeHome_15 : decode cX5_comeHome 15 = .ok (.putfield 131, 3) := by decide +kernel
theorem dX5_comeHome_18 : decode cX5_comeHome 18 = .ok (.aload_n 0, 1) := by decide +kernel
theorem dX5_comeHome_19 : decode cX5_comeHome 19 = .ok (.aload_n 1, 1) := by decide +kernel
theorem dX5_comeHome_20 : decode cX5_comeHome 20 = .ok (.invokevirtual 104, 3) := by decide +kernel
theorem dX5_comeHome_23 : decode cX5_comeHome 23 = .ok (.pop, 1) := by decide +kernel
theorem dX5_comeHome_24 : decode cX5_comeHome 24 = .ok (.aload_n 1, 1) := by decide +kernel
theorem dX5_comeHome_25 : decode cX5_comeHome 25 = .ok (.invokevirtual 83, 3) := by decide +kernel
theorem dX5_comeHome_28 : decode cX5_comeHome 28 = .ok (.ifCond .eq 9, 3) := by decide +kernel
theorem dX5_comeHome_31 : decode cX5_comeHome 31 = .ok (.aload_n 0, 1) := by decide +kernel
theorem dX5_comeHome_32 : decode cX5_comeHome 32 = .ok (.iconst 0, 1) := by decide +kernel
theorem dX5_comeHome_33 : decode cX5_comeHome 33 = .ok (.aload_n 1, 1) := by decide +kernel
theorem dX5_comeHome_34 : decode cX5_comeHome 34 = .ok (.invokevirtual 72, 3) := by decide +kernel
theorem dX5_comeHome_37 : decode cX5_comeHome 37 = .ok (.return_, 1) := by decide +kernel
set_option maxRecDepth 20000 in
theorem ggX5_examine_X1_isHarmed : GoodIn wsX5_examine wsX1_isHarmed := goodIn_r _ [9, 10, 20, 21, 22, 23, 24, 25, 26, 27] (by decide +kernel) (by decide +kernel)
set_option maxRecDepth 20000 in
theorem gX5_examine_X1_isHarmed : GoodIn wsX5_examine (wsV RX5 90 RX1 yX1_isHarmed wsX1_isHarmed) := goodIn_app (goodIn_of _ (by decide +kernel)) ggX5_examine_X1_isHarmed
set_option maxRecDepth 20000 in
theorem ggX5_examine_X0_charge : GoodIn wsX5_examine wsX0_charge := goodIn_r _ [15, 16, 17, 18, 19, 35, 36, 37] (by decide +kernel) (by decide +kernel)
set_option maxRecDepth 20000 in
theorem gX5_examine_X0_charge : GoodIn wsX5_examine (wsV RX5 170 RX0 yX0_charge wsX0_charge) := goodIn_app (goodIn_of _ (by decide +kernel)) ggX5_examine_X0_charge
theorem dX5_examine_0 : decode cX5_examine 0 = .ok (.aload_n 1, 1) := by decide +kernel
theorem dX5_examine_1 : decode cX5_examine 1 = .ok (.invokevirtual 90, 3) := by decide +kernel
theorem dX5_examine_4 : decode cX5_examine 4 = .ok (.ifCond .eq 10, 3) := by decide +kernel
theorem dX5_examine_7 : decode cX5_examine 7 = .ok (.aload_n 1, 1) := by decide +kernel
theorem dX5_examine_8 : decode cX5_examine 8 = .ok (.getfield 111, 3) := by decide +kernel
theorem dX5_examine_11 : decode cX5_examine 11 = .ok (.ifCond .eq 5, 3) := by decide +kernel
theorem dX5_examine_14 : decode cX5_examine 14 = .ok (.iconst (-1), 1) := by decide +kernel
theorem dX5_examine_15 : decode cX5_examine 15 = .ok (.ireturn, 1) := by decide +kernel
theorem dX5_examine_16 : decode cX5_examine 16 = .ok (.aload_n 1, 1) := by decide +kernel
theorem dX5_examine_17 : decode cX5_examine 17 = .ok (.iconst 1, 1) := by decide +kernel
theorem dX5_examine_18 : decode cX5_examine 18 = .ok (.putfield 111, 3) := by decide +kernel
theorem dX5_examine_21 : decode cX5_examine 21 = .ok (.aload_n 1, 1) := by decide +kernel
theorem dX5_examine_22 : decode cX5_examine 22 = .ok (.getfield 95, 3) := by decide +kernel
theorem dX5_examine_25 : decode cX5_examine 25 = .ok (.aload_n 1, 1) := by decide +kernel
theorem dX5_examine_26 : decode cX5_examine 26 = .ok (.getfield 149, 3) := by decide +kernel
theorem dX5_examine_29 : decode cX5_examine 29 = .ok (.if_icmp .eq 20, 3) := by decide +kernel
theorem dX5_examine_32 : decode cX5_examine 32 = .ok (.aload_n 0, 1) := by decide +kernel
theorem dX5_examine_33 : decode cX5_examine 33 = .ok (.getfield 33, 3) := by decide +kernel
theorem dX5_examine_36 : decode cX5_examine 36 = .ok (.aload_n 1, 1) := by decide +kernel
theorem dX5_examine_37 : decode cX5_examine 37 = .ok (.getfield 95, 3) := by decide +kernel
theorem dX5_examine_40 : decode cX5_examine 40 = .ok (.aload_n 1, 1) := by decide +kernel
theorem dX5_examine_41 : decode cX5_examine 41 = .ok (.getfield 149, 3) := by decide +kernel
theorem dX5_examine_44 : decode cX5_examine 44 = .ok (.bipush 30, 2) := by decide +kernel
theorem dX5_examine_46 : decode cX5_examine 46 = .ok (.invokevirtual 170, 3) := by decide +kernel
theorem dX5_examine_49 : decode cX5_examine 49 = .ok (.aload_n 1, 1) := by decide +kernel
theorem dX5_examine_50 : decode cX5_examine 50 = .ok (.getfield 95, 3) := by decide +kernel
theorem dX5_examine_53 : decode cX5_examine 53 = .ok (.ireturn, 1) := by decide +kernel
theorem dX6_init_0 : decode cX6_init 0 = .ok (.aload_n 0, 1) := by decide +kernel
theorem dX6_init_1 : decode cX6_init 1 = .ok (.invokespecial 1, 3) := by decide +kernel
theorem dX6_init_4 : decode cX6_init 4 = .ok (.aload_n 0, 1) := by decide +kernel
theorem dX6_init_5 : decode cX6_init 5 = .ok (.bipush 20, 2) := by decide +kernel
theorem dX6_init_7 : decode cX6_init 7 = .ok (.newarray .int, 2) := by decide +kernel
theorem dX6_init_9 : decode cX6_init 9 = .ok (.putfield 7, 3) := by decide +kernel
theorem dX6_init_12 : decode cX6_init 12 = .ok (.aload_n 0, 1) := by decide +kernel
theorem dX6_init_13 : decode cX6_init 13 = .ok (.bipush 20, 2) := by decide +kernel
theorem dX6_init_15 : decode cX6_init 15 = .ok (.newarray .int, 2) := by decide +kernel
theorem dX6_init_17 : decode cX6_init 17 = .ok (.putfield 13, 3) := by decide +kernel
theorem dX6_init_20 : decode cX6_init 20 = .ok (.aload_n 0, 1) := by decide +kernel
theorem dX6_init_21 : decode cX6_init 21 = .ok (.bipush 20, 2) := by decide +kernel
theorem dX6_init_23 : decode cX6_init 23 = .ok (.newarray .int, 2) := by decide +kernel
theorem dX6_init_25 : decode cX6_init 25 = .ok (.putfield 16, 3) := by decide +kernel
theorem dX6_init_28 : decode cX6_init 28 = .ok (.aload_n 0, 1) := by decide +kernel
theorem dX6_init_29 : decode cX6_init 29 = .ok (.bipush 20, 2) := by decide +kernel
theorem dX6_init_31 : decode cX6_init 31 = .ok (.newarray .int, 2) := by decide +kernel
theorem dX6_init_33 : decode cX6_init 33 = .ok (.putfield 19, 3) := by decide +kernel
theorem dX6_init_36 : decode cX6_init 36 = .ok (.aload_n 0, 1) := by decide +kernel
theorem dX6_init_37 : decode cX6_init 37 = .ok (.bipush 20, 2) := by decide +kernel
theorem dX6_init_39 : decode cX6_init 39 = .ok (.newarray .int, 2) := by decide +kernel
theorem dX6_init_41 : decode cX6_init 41 = .ok (.putfield 22, 3) := by decide +kernel
theorem dX6_init_44 : decode cX6_init 44 = .ok (.aload_n 0, 1) := by decide +kernel
theorem dX6_init_45 : decode cX6_init 45 = .ok (.bipush 20, 2) := by decide +kernel
theorem dX6_init_47 : decode cX6_init 47 = .ok (.newarray .int, 2) := by decide +kernel
theorem dX6_init_49 : decode cX6_init 49 = .ok (.putfield 25, 3) := by decide +kernel
theorem dX6_init_52 : decode cX6_init 52 = .ok (.aload_n 0, 1) := by decide +kernel
theorem dX6_init_53 : decode cX6_init 53 = .ok (.bipush 20, 2) := by decide +kernel
theorem dX6_init_55 : decode cX6_init 55 = .ok (.newarray .int, 2) := by decide +kernel
theorem dX6_init_57 : decode cX6_init 57 = .ok (.putfield 28, 3) := by decide +kernel
theorem dX6_init_60 : decode cX6_init 60 = .ok (.aload_n 0, 1) := by decide +kernel
theorem dX6_init_61 : decode cX6_init 61 = .ok (.bipush 40, 2) := by decide +kernel
theorem dX6_init_63 : decode cX6_init 63 = .ok (.newarray .int, 2) := by decide +kernel
theorem dX6_init_65 : decode cX6_init 65 = .ok (.putfield 31, 3) := by decide +kernel
theorem dX6_init_68 : decode cX6_init 68 = .ok (.aload_n 0, 1) := by decide +kernel
theorem dX6_init_69 : decode cX6_init 69 = .ok (.bipush 40, 2) := by decide +kernel
theorem dX6_init_71 : decode cX6_init 71 = .ok (.newarray .int, 2) := by decide +kernel
theorem dX6_init_73 : decode cX6_init 73 = .ok (.putfield 34, 3) := by decide +kernel
theorem dX6_init_76 : decode cX6_init 76 = .ok (.aload_n 0, 1) := by decide +kernel
theorem dX6_init_77 : decode cX6_init 77 = .ok (.bipush 40, 2) := by decide +kernel
theorem dX6_init_79 : decode cX6_init 79 = .ok (.newarray .int, 2) := by decide +kernel
theorem dX6_init_81 : decode cX6_init 81 = .ok (.putfield 37, 3) := by decide +kernel
theorem dX6_init_84 : decode cX6_init 84 = .ok (.aload_n 0, 1) := by decide +kernel
theorem dX6_init_85 : decode cX6_init 85 = .ok (.bipush 40, 2) := by decide +kernel
theorem dX6_init_87 : decode cX6_init 87 = .ok (.newarray .int, 2) := by decide +kernel
theorem dX6_init_89 : decode cX6_init 89 = .ok (.putfield 40, 3) := by decide +kernel
theorem dX6_init_92 : decode cX6_init 92 = .ok (.aload_n 0, 1) := by decide +kernel
theorem dX6_init_93 : decode cX6_init 93 = .ok (.bipush 40, 2) := by decide +kernel
theorem dX6_init_95 : decode cX6_init 95 = .ok (.newarray .int, 2) := by decide +kernel
theorem dX6_init_97 : decode cX6_init 97 = .ok (.putfield 43, 3) := by decide +kernel
theorem dX6_init_100 : decode cX6_init 100 = .ok (.aload_n 0, 1) := by decide +kernel
theorem dX6_init_101 : decode cX6_init 101 = .ok (.bipush 40, 2) := by decide +kernel
theorem dX6_init_103 : decode cX6_init 103 = .ok (.newarray .int, 2) := by decide +kernel
theorem dX6_init_105 : decode cX6_init 105 = .ok (.putfield 46, 3) := by decide +kernel
theorem dX6_init_108 : decode cX6_init 108 = .ok (.aload_n 0, 1) := by decide +kernel
theorem dX6_init_109 : decode cX6_init 109 = .ok (.bipush 40, 2) := by decide +kernel
theorem dX6_init_111 : decode cX6_init 111 = .ok (.newarray .int, 2) := by decide +kernel
theorem dX6_init_113 : decode cX6_init 113 = .ok (.putfield 49, 3) := by decide +kernel
theorem dX6_init_116 : decode cX6_init 116 = .ok (.aload_n 0, 1) := by decide +kernel
theorem dX6_init_117 : decode cX6_init 117 = .ok (.sipush 4000, 3) := by decide +kernel
theorem dX6_init_120 : decode cX6_init 120 = .ok (.newarray .int, 2) := by decide +kernel
theorem dX6_init_122 : decode cX6_init 122 = .ok (.putfield 52, 3) := by decide +kernel
theorem dX6_init_125 : decode cX6_init 125 = .ok (.aload_n 0, 1) := by decide +kernel
theorem dX6_init_126 : decode cX6_init 126 = .ok (.sipush 4000, 3) := by decide +kernel
theorem dX6_init_129 : decode cX6_init 129 = .ok (.newarray .int, 2) := by decide +kernel
theorem dX6_init_131 : decode cX6_init 131 = .ok (.putfield 55, 3) := by decide +kernel
theorem dX6_init_134 : decode cX6_init 134 = .ok (.aload_n 0, 1) := by decide +kernel
theorem dX6_init_135 : decode cX6_init 135 = .ok (.sipush 4000, 3) := by decide +kernel
theorem dX6_init_138 : decode cX6_init 138 = .ok (.newarray .int, 2) := by decide +kernel
theorem dX6_init_140 : decode cX6_init 140 = .ok (.putfield 58, 3) := by decide +kernel
theorem dX6_init_143 : decode cX6_init 143 = .ok (.aload_n 0, 1) := by decide +kernel
theorem dX6_init_144 : decode cX6_init 144 = .ok (.bipush 36, 2) := by decide +kernel
theorem dX6_init_146 : decode cX6_init 146 = .ok (.newarray .int, 2) := by decide +kernel
theorem dX6_init_148 : decode cX6_init 148 = .ok (.putfield 61, 3) := by decide +kernel
theorem dX6_init_151 : decode cX6_init 151 = .ok (.aload_n 0, 1) := by decide +kernel
theorem dX6_init_152 : decode cX6_init 152 = .ok (.bipush 6, 2) := by decide +kernel
theorem dX6_init_154 : decode cX6_init 154 = .ok (.newarray .int, 2) := by decide +kernel
theorem dX6_init_156 : decode cX6_init 156 = .ok (.putfield 64, 3) := by decide +kernel
theorem dX6_init_159 : decode cX6_init 159 = .ok (.return_, 1) := by decide +kernel
theorem dX6_thrown_0 : decode cX6_thrown 0 = .ok (.aload_n 0, 1) := by decide +kernel
theorem dX6_thrown_1 : decode cX6_thrown 1 = .ok (.getfield 67, 3) := by decide +kernel
theorem dX6_thrown_4 : decode cX6_thrown 4 = .ok (.ireturn, 1) := by decide +kernel
theorem dX6_holds_0 : decode cX6_holds 0 = .ok (.aload_n 0, 1) := by decide +kernel
theorem dX6_holds_1 : decode cX6_holds 1 = .ok (.iload_n 1, 1) := by decide +kernel
theorem dX6_holds_2 : decode cX6_holds 2 = .ok (.putfield 67, 3) := by decide +kernel
theorem dX6_holds_5 : decode cX6_holds 5 = .ok (.iload_n 1, 1) := by decide +kernel
theorem dX6_holds_6 : decode cX6_holds 6 = .ok (.ifCond .le 7, 3) := by decide +kernel
theorem dX6_holds_9 : decode cX6_holds 9 = .ok (.iconst 1, 1) := by decide +kernel
theorem dX6_holds_10 : decode cX6_holds 10 = .ok (.goto 4, 3) := by decide +kernel
theorem dX6_holds_13 : decode cX6_holds 13 = .ok (.iconst 0, 1) := by decide +kernel
theorem dX6_holds_14 : decode cX6_holds 14 = .ok (.ireturn, 1) := by decide +kernel
theorem dX6_plain_0 : decode cX6_plain 0 = .ok (.aload_n 0, 1) := by decide +kernel
theorem dX6_plain_1 : decode cX6_plain 1 = .ok (.iconst 0, 1) := by decide +kernel
theorem dX6_plain_2 : decode cX6_plain 2 = .ok (.putfield 67, 3) := by decide +kernel
theorem dX6_plain_5 : decode cX6_plain 5 = .ok (.iload_n 1, 1) := by decide +kernel
theorem dX6_plain_6 : decode cX6_plain 6 = .ok (.ireturn, 1) := by decide +kernel
theorem dX6_between_0 : decode cX6_between 0 = .ok (.iload_n 1, 1) := by decide +kernel
theorem dX6_between_1 : decode cX6_between 1 = .ok (.iload_n 2, 1) := by decide +kernel
theorem dX6_between_2 : decode cX6_between 2 = .ok (.if_icmp .lt 12, 3) := by decide +kernel
theorem dX6_between_5 : decode cX6_between 5 = .ok (.iload_n 1, 1) := by decide +kernel
theorem dX6_between_6 : decode cX6_between 6 = .ok (.iload_n 3, 1) := by decide +kernel
theorem dX6_between_7 : decode cX6_between 7 = .ok (.if_icmp .gt 7, 3) := by decide +kernel
theorem dX6_between_10 : decode cX6_between 10 = .ok (.iconst 1, 1) := by decide +kernel
theorem dX6_between_11 : decode cX6_between 11 = .ok (.goto 4, 3) := by decide +kernel
theorem dX6_between_14 : decode cX6_between 14 = .ok (.iconst 0, 1) := by decide +kernel
theorem dX6_between_15 : decode cX6_between 15 = .ok (.ireturn, 1) := by decide +kernel
set_option maxRecDepth 20000 in
theorem ggX6_isHouse_X6_between : GoodIn wsX6_isHouse wsX6_between := goodIn_r _ [5] (by decide +kernel) (by decide +kernel)
set_option maxRecDepth 20000 in
theorem gX6_isHouse_X6_between : GoodIn wsX6_isHouse (wsV RX6 71 RX6 yX6_between wsX6_between) := goodIn_app (goodIn_of _ (by decide +kernel)) ggX6_isHouse_X6_between
theorem dX6_isHouse_0 : decode cX6_isHouse 0 = .ok (.aload_n 0, 1) := by decide +kernel
theorem dX6_isHouse_1 : decode cX6_isHouse 1 = .ok (.iload_n 1, 1) := by decide +kernel
theorem dX6_isHouse_2 : decode cX6_isHouse 2 = .ok (.iconst 0, 1) := by decide +kernel
theorem dX6_isHouse_3 : decode cX6_isHouse 3 = .ok (.iconst 5, 1) := by decide +kernel
theorem dX6_isHouse_4 : decode cX6_isHouse 4 = .ok (.invokevirtual 71, 3) := by decide +kernel
theorem dX6_isHouse_7 : decode cX6_isHouse 7 = .ok (.ireturn, 1) := by decide +kernel
set_option maxRecDepth 20000 in
theorem ggX6_isCopy_X6_between : GoodIn wsX6_isCopy wsX6_between := goodIn_r _ [6] (by decide +kernel) (by decide +kernel)
set_option maxRecDepth 20000 in
theorem gX6_isCopy_X6_between : GoodIn wsX6_isCopy (wsV RX6 71 RX6 yX6_between wsX6_between) := goodIn_app (goodIn_of _ (by decide +kernel)) ggX6_isCopy_X6_between
theorem dX6_isCopy_0 : decode cX6_isCopy 0 = .ok (.aload_n 0, 1) := by decide +kernel
theorem dX6_isCopy_1 : decode cX6_isCopy 1 = .ok (.iload_n 1, 1) := by decide +kernel
theorem dX6_isCopy_2 : decode cX6_isCopy 2 = .ok (.iconst 0, 1) := by decide +kernel
theorem dX6_isCopy_3 : decode cX6_isCopy 3 = .ok (.aload_n 0, 1) := by decide +kernel
end
section
theorem dX6_isCopy_4 : decode cX6_isCopy 4 = .ok (.getfield 75, 3) := by decide +kernel
theorem dX6_isCopy_7 : decode cX6_isCopy 7 = .ok (.iconst 1, 1) := by decide +kernel
theorem dX6_isCopy_8 : decode cX6_isCopy 8 = .ok (.isub, 1) := by decide +kernel
theorem dX6_isCopy_9 : decode cX6_isCopy 9 = .ok (.invokevirtual 71, 3) := by decide +kernel
theorem dX6_isCopy_12 : decode cX6_isCopy 12 = .ok (.ireturn, 1) := by decide +kernel
set_option maxRecDepth 20000 in
theorem ggX6_isRequest_X6_between : GoodIn wsX6_isRequest wsX6_between := goodIn_r _ [6] (by decide +kernel) (by decide +kernel)
set_option maxRecDepth 20000 in
theorem gX6_isRequest_X6_between : GoodIn wsX6_isRequest (wsV RX6 71 RX6 yX6_between wsX6_between) := goodIn_app (goodIn_of _ (by decide +kernel)) ggX6_isRequest_X6_between
theorem dX6_isRequest_0 : decode cX6_isRequest 0 = .ok (.aload_n 0, 1) := by decide +kernel
theorem dX6_isRequest_1 : decode cX6_isRequest 1 = .ok (.iload_n 1, 1) := by decide +kernel
theorem dX6_isRequest_2 : decode cX6_isRequest 2 = .ok (.iconst 0, 1) := by decide +kernel
theorem dX6_isRequest_3 : decode cX6_isRequest 3 = .ok (.aload_n 0, 1) := by decide +kernel
theorem dX6_isRequest_4 : decode cX6_isRequest 4 = .ok (.getfield 78, 3) := by decide +kernel
theorem dX6_isRequest_7 : decode cX6_isRequest 7 = .ok (.iconst 1, 1) := by decide +kernel
theorem dX6_isRequest_8 : decode cX6_isRequest 8 = .ok (.isub, 1) := by decide +kernel
theorem dX6_isRequest_9 : decode cX6_isRequest 9 = .ok (.invokevirtual 71, 3) := by decide +kernel
theorem dX6_isRequest_12 : decode cX6_isRequest 12 = .ok (.ireturn, 1) := by decide +kernel
theorem dX6_way_0 : decode cX6_way 0 = .ok (.iload_n 1, 1) := by decide +kernel
theorem dX6_way_1 : decode cX6_way 1 = .ok (.iload_n 2, 1) := by decide +kernel
theorem dX6_way_2 : decode cX6_way 2 = .ok (.if_icmp .ge 11, 3) := by decide +kernel
theorem dX6_way_5 : decode cX6_way 5 = .ok (.iload_n 2, 1) := by decide +kernel
theorem dX6_way_6 : decode cX6_way 6 = .ok (.iload_n 1, 1) := by decide +kernel
theorem dX6_way_7 : decode cX6_way 7 = .ok (.isub, 1) := by decide +kernel
theorem dX6_way_8 : decode cX6_way 8 = .ok (.iconst 1, 1) := by decide +kernel
theorem dX6_way_9 : decode cX6_way 9 = .ok (.iadd, 1) := by decide +kernel
theorem dX6_way_10 : decode cX6_way 10 = .ok (.goto 8, 3) := by decide +kernel
theorem dX6_way_13 : decode cX6_way 13 = .ok (.iload_n 1, 1) := by decide +kernel
theorem dX6_way_14 : decode cX6_way 14 = .ok (.iload_n 2, 1) := by decide +kernel
theorem dX6_way_15 : decode cX6_way 15 = .ok (.isub, 1) := by decide +kernel
theorem dX6_way_16 : decode cX6_way 16 = .ok (.iconst 1, 1) := by decide +kernel
theorem dX6_way_17 : decode cX6_way 17 = .ok (.iadd, 1) := by decide +kernel
theorem dX6_way_18 : decode cX6_way 18 = .ok (.ireturn, 1) := by decide +kernel
theorem dX6_send_0 : decode cX6_send 0 = .ok (.aload_n 0, 1) := by decide +kernel
theorem dX6_send_1 : decode cX6_send 1 = .ok (.getfield 52, 3) := by decide +kernel
theorem dX6_send_4 : decode cX6_send 4 = .ok (.aload_n 0, 1) := by decide +kernel
theorem dX6_send_5 : decode cX6_send 5 = .ok (.getfield 81, 3) := by decide +kernel
theorem dX6_send_8 : decode cX6_send 8 = .ok (.iload_n 1, 1) := by decide +kernel
theorem dX6_send_9 : decode cX6_send 9 = .ok (.iastore, 1) := by decide +kernel
theorem dX6_send_10 : decode cX6_send 10 = .ok (.aload_n 0, 1) := by decide +kernel
theorem dX6_send_11 : decode cX6_send 11 = .ok (.getfield 55, 3) := by decide +kernel
theorem dX6_send_14 : decode cX6_send 14 = .ok (.aload_n 0, 1) := by decide +kernel
theorem dX6_send_15 : decode cX6_send 15 = .ok (.getfield 81, 3) := by decide +kernel
theorem dX6_send_18 : decode cX6_send 18 = .ok (.iload_n 2, 1) := by decide +kernel
theorem dX6_send_19 : decode cX6_send 19 = .ok (.iastore, 1) := by decide +kernel
theorem dX6_send_20 : decode cX6_send 20 = .ok (.aload_n 0, 1) := by decide +kernel
theorem dX6_send_21 : decode cX6_send 21 = .ok (.getfield 58, 3) := by decide +kernel
theorem dX6_send_24 : decode cX6_send 24 = .ok (.aload_n 0, 1) := by decide +kernel
theorem dX6_send_25 : decode cX6_send 25 = .ok (.getfield 81, 3) := by decide +kernel
theorem dX6_send_28 : decode cX6_send 28 = .ok (.aload_n 0, 1) := by decide +kernel
theorem dX6_send_29 : decode cX6_send 29 = .ok (.getfield 84, 3) := by decide +kernel
theorem dX6_send_32 : decode cX6_send 32 = .ok (.iload_n 3, 1) := by decide +kernel
theorem dX6_send_33 : decode cX6_send 33 = .ok (.iadd, 1) := by decide +kernel
theorem dX6_send_34 : decode cX6_send 34 = .ok (.iastore, 1) := by decide +kernel
theorem dX6_send_35 : decode cX6_send 35 = .ok (.aload_n 0, 1) := by decide +kernel
theorem dX6_send_36 : decode cX6_send 36 = .ok (.dup, 1) := by decide +kernel
theorem dX6_send_37 : decode cX6_send 37 = .ok (.getfield 81, 3) := by decide +kernel
theorem dX6_send_40 : decode cX6_send 40 = .ok (.iconst 1, 1) := by decide +kernel
theorem dX6_send_41 : decode cX6_send 41 = .ok (.iadd, 1) := by decide +kernel
theorem dX6_send_42 : decode cX6_send 42 = .ok (.putfield 81, 3) := by decide +kernel
theorem dX6_send_45 : decode cX6_send 45 = .ok (.aload_n 0, 1) := by decide +kernel
theorem dX6_send_46 : decode cX6_send 46 = .ok (.getfield 84, 3) := by decide +kernel
theorem dX6_send_49 : decode cX6_send 49 = .ok (.iload_n 3, 1) := by decide +kernel
theorem dX6_send_50 : decode cX6_send 50 = .ok (.iadd, 1) := by decide +kernel
theorem dX6_send_51 : decode cX6_send 51 = .ok (.ireturn, 1) := by decide +kernel
theorem dX6_owe_0 : decode cX6_owe 0 = .ok (.aload_n 0, 1) := by decide +kernel
theorem dX6_owe_1 : decode cX6_owe 1 = .ok (.getfield 61, 3) := by decide +kernel
theorem dX6_owe_4 : decode cX6_owe 4 = .ok (.bipush 6, 2) := by decide +kernel
theorem dX6_owe_6 : decode cX6_owe 6 = .ok (.iload_n 1, 1) := by decide +kernel
theorem dX6_owe_7 : decode cX6_owe 7 = .ok (.imul, 1) := by decide +kernel
theorem dX6_owe_8 : decode cX6_owe 8 = .ok (.iload_n 2, 1) := by decide +kernel
theorem dX6_owe_9 : decode cX6_owe 9 = .ok (.iadd, 1) := by decide +kernel
theorem dX6_owe_10 : decode cX6_owe 10 = .ok (.dup2, 1) := by decide +kernel
theorem dX6_owe_11 : decode cX6_owe 11 = .ok (.iaload, 1) := by decide +kernel
theorem dX6_owe_12 : decode cX6_owe 12 = .ok (.iload_n 3, 1) := by decide +kernel
theorem dX6_owe_13 : decode cX6_owe 13 = .ok (.iadd, 1) := by decide +kernel
theorem dX6_owe_14 : decode cX6_owe 14 = .ok (.iastore, 1) := by decide +kernel
theorem dX6_owe_15 : decode cX6_owe 15 = .ok (.aload_n 0, 1) := by decide +kernel
theorem dX6_owe_16 : decode cX6_owe 16 = .ok (.getfield 61, 3) := by decide +kernel
theorem dX6_owe_19 : decode cX6_owe 19 = .ok (.bipush 6, 2) := by decide +kernel
theorem dX6_owe_21 : decode cX6_owe 21 = .ok (.iload_n 2, 1) := by decide +kernel
theorem dX6_owe_22 : decode cX6_owe 22 = .ok (.imul, 1) := by decide +kernel
theorem dX6_owe_23 : decode cX6_owe 23 = .ok (.iload_n 1, 1) := by decide +kernel
theorem dX6_owe_24 : decode cX6_owe 24 = .ok (.iadd, 1) := by decide +kernel
theorem dX6_owe_25 : decode cX6_owe 25 = .ok (.dup2, 1) := by decide +kernel
theorem dX6_owe_26 : decode cX6_owe 26 = .ok (.iaload, 1) := by decide +kernel
theorem dX6_owe_27 : decode cX6_owe 27 = .ok (.iload_n 3, 1) := by decide +kernel
theorem dX6_owe_28 : decode cX6_owe 28 = .ok (.isub, 1) := by decide +kernel
theorem dX6_owe_29 : decode cX6_owe 29 = .ok (.iastore, 1) := by decide +kernel
theorem dX6_owe_30 : decode cX6_owe 30 = .ok (.return_, 1) := by decide +kernel
theorem dX6_free_0 : decode cX6_free 0 = .ok (.aload_n 0, 1) := by decide +kernel
theorem dX6_free_1 : decode cX6_free 1 = .ok (.getfield 16, 3) := by decide +kernel
theorem dX6_free_4 : decode cX6_free 4 = .ok (.iload_n 1, 1) := by decide +kernel
theorem dX6_free_5 : decode cX6_free 5 = .ok (.iaload, 1) := by decide +kernel
theorem dX6_free_6 : decode cX6_free 6 = .ok (.aload_n 0, 1) := by decide +kernel
theorem dX6_free_7 : decode cX6_free 7 = .ok (.getfield 7, 3) := by decide +kernel
theorem dX6_free_10 : decode cX6_free 10 = .ok (.iload_n 1, 1) := by decide +kernel
theorem dX6_free_11 : decode cX6_free 11 = .ok (.iaload, 1) := by decide +kernel
theorem dX6_free_12 : decode cX6_free 12 = .ok (.if_icmp .ne 16, 3) := by decide +kernel
theorem dX6_free_15 : decode cX6_free 15 = .ok (.aload_n 0, 1) := by decide +kernel
theorem dX6_free_16 : decode cX6_free 16 = .ok (.getfield 28, 3) := by decide +kernel
theorem dX6_free_19 : decode cX6_free 19 = .ok (.iload_n 1, 1) := by decide +kernel
theorem dX6_free_20 : decode cX6_free 20 = .ok (.iaload, 1) := by decide +kernel
theorem dX6_free_21 : decode cX6_free 21 = .ok (.ifCond .ne 7, 3) := by decide +kernel
theorem dX6_free_24 : decode cX6_free 24 = .ok (.iconst 1, 1) := by decide +kernel
theorem dX6_free_25 : decode cX6_free 25 = .ok (.goto 4, 3) := by decide +kernel
theorem dX6_free_28 : decode cX6_free 28 = .ok (.iconst 0, 1) := by decide +kernel
theorem dX6_free_29 : decode cX6_free 29 = .ok (.ireturn, 1) := by decide +kernel
set_option maxRecDepth 20000 in
theorem ggX6_tell_X6_send : GoodIn wsX6_tell wsX6_send := goodIn_r _ [6, 7, 8, 9, 10, 11, 12, 13, 14, 15, 16, 17, 18, 19, 20, 21, 22, 23, 24, 25, 26, 27, 28, 29, 30, 31, 32, 33, 34, 35] (by decide +kernel) (by decide +kernel)
set_option maxRecDepth 20000 in
theorem gX6_tell_X6_send : GoodIn wsX6_tell (wsV RX6 87 RX6 yX6_send wsX6_send) := goodIn_app (goodIn_of _ (by decide +kernel)) ggX6_tell_X6_send
theorem dX6_tell_0 : decode cX6_tell 0 = .ok (.aload_n 0, 1) := by decide +kernel
theorem dX6_tell_1 : decode cX6_tell 1 = .ok (.iload_n 2, 1) := by decide +kernel
theorem dX6_tell_2 : decode cX6_tell 2 = .ok (.iload_n 1, 1) := by decide +kernel
theorem dX6_tell_3 : decode cX6_tell 3 = .ok (.aload_n 0, 1) := by decide +kernel
theorem dX6_tell_4 : decode cX6_tell 4 = .ok (.getfield 7, 3) := by decide +kernel
theorem dX6_tell_7 : decode cX6_tell 7 = .ok (.iload_n 1, 1) := by decide +kernel
theorem dX6_tell_8 : decode cX6_tell 8 = .ok (.iaload, 1) := by decide +kernel
theorem dX6_tell_9 : decode cX6_tell 9 = .ok (.iconst 1, 1) := by decide +kernel
theorem dX6_tell_10 : decode cX6_tell 10 = .ok (.iadd, 1) := by decide +kernel
theorem dX6_tell_11 : decode cX6_tell 11 = .ok (.invokevirtual 87, 3) := by decide +kernel
theorem dX6_tell_14 : decode cX6_tell 14 = .ok (.pop, 1) := by decide +kernel
theorem dX6_tell_15 : decode cX6_tell 15 = .ok (.return_, 1) := by decide +kernel
set_option maxRecDepth 20000 in
theorem ggX6_addCopy_X6_isHouse : GoodIn wsX6_addCopy wsX6_isHouse := goodIn_r _ [12, 13, 14, 15, 11, 16] (by decide +kernel) (by decide +kernel)
set_option maxRecDepth 20000 in
theorem gX6_addCopy_X6_isHouse : GoodIn wsX6_addCopy (wsV RX6 91 RX6 yX6_isHouse wsX6_isHouse) := goodIn_app (goodIn_of _ (by decide +kernel)) ggX6_addCopy_X6_isHouse
set_option maxRecDepth 20000 in
theorem ggX6_addCopy_X6_between : GoodIn wsX6_addCopy wsX6_between := goodIn_r _ [16] (by decide +kernel) (by decide +kernel)
set_option maxRecDepth 20000 in
theorem gX6_addCopy_X6_between : GoodIn wsX6_addCopy (wsV RX6 71 RX6 yX6_between wsX6_between) := goodIn_app (goodIn_of _ (by decide +kernel)) ggX6_addCopy_X6_between
set_option maxRecDepth 20000 in
theorem ggX6_addCopy_X6_holds : GoodIn wsX6_addCopy wsX6_holds := goodIn_r _ [20, 21, 35, 36, 37, 38, 39, 40, 41, 42, 43, 44, 45, 46, 47, 48, 49, 50, 51, 52, 53, 54, 55, 56, 57, 58] (by decide +kernel) (by decide +kernel)
set_option maxRecDepth 20000 in
theorem gX6_addCopy_X6_holds : GoodIn wsX6_addCopy (wsV RX6 95 RX6 yX6_holds wsX6_holds) := goodIn_app (goodIn_of _ (by decide +kernel)) ggX6_addCopy_X6_holds
set_option maxRecDepth 20000 in
theorem ggX6_addCopy_X6_tell : GoodIn wsX6_addCopy wsX6_tell := goodIn_r _ [25, 2, 26, 27, 28, 11, 29, 30, 31, 32, 33, 34, 35, 36, 37, 38, 39, 40, 41, 42, 43, 44, 45, 46, 47, 48, 49, 50, 51, 52, 53, 54, 55, 56, 57, 58] (by decide +kernel) (by decide +kernel)
set_option maxRecDepth 20000 in
theorem gX6_addCopy_X6_tell : GoodIn wsX6_addCopy (wsV RX6 98 RX6 yX6_tell wsX6_tell) := goodIn_app (goodIn_of _ (by decide +kernel)) ggX6_addCopy_X6_tell
theorem dX6_addCopy_0 : decode cX6_addCopy 0 = .ok (.aload_n 0, 1) := by decide +kernel
theorem dX6_addCopy_1 : decode cX6_addCopy 1 = .ok (.aload_n 0, 1) := by decide +kernel
theorem dX6_addCopy_2 : decode cX6_addCopy 2 = .ok (.iload_n 1, 1) := by decide +kernel
theorem dX6_addCopy_3 : decode cX6_addCopy 3 = .ok (.invokevirtual 91, 3) := by decide +kernel
theorem dX6_addCopy_6 : decode cX6_addCopy 6 = .ok (.ifCond .eq 14, 3) := by decide +kernel
theorem dX6_addCopy_9 : decode cX6_addCopy 9 = .ok (.aload_n 0, 1) := by decide +kernel
theorem dX6_addCopy_10 : decode cX6_addCopy 10 = .ok (.iload_n 2, 1) := by decide +kernel
theorem dX6_addCopy_11 : decode cX6_addCopy 11 = .ok (.iconst 0, 1) := by decide +kernel
theorem dX6_addCopy_12 : decode cX6_addCopy 12 = .ok (.bipush 7, 2) := by decide +kernel
theorem dX6_addCopy_14 : decode cX6_addCopy 14 = .ok (.invokevirtual 71, 3) := by decide +kernel
theorem dX6_addCopy_17 : decode cX6_addCopy 17 = .ok (.ifCond .ne 7, 3) := by decide +kernel
theorem dX6_addCopy_20 : decode cX6_addCopy 20 = .ok (.iconst 1, 1) := by decide +kernel
theorem dX6_addCopy_21 : decode cX6_addCopy 21 = .ok (.goto 17, 3) := by decide +kernel
theorem dX6_addCopy_24 : decode cX6_addCopy 24 = .ok (.aload_n 0, 1) := by decide +kernel
theorem dX6_addCopy_25 : decode cX6_addCopy 25 = .ok (.getfield 75, 3) := by decide +kernel
theorem dX6_addCopy_28 : decode cX6_addCopy 28 = .ok (.bipush 20, 2) := by decide +kernel
theorem dX6_addCopy_30 : decode cX6_addCopy 30 = .ok (.if_icmp .ne 7, 3) := by decide +kernel
theorem dX6_addCopy_33 : decode cX6_addCopy 33 = .ok (.iconst 2, 1) := by decide +kernel
theorem dX6_addCopy_34 : decode cX6_addCopy 34 = .ok (.goto 4, 3) := by decide +kernel
theorem dX6_addCopy_37 : decode cX6_addCopy 37 = .ok (.iconst 0, 1) := by decide +kernel
theorem dX6_addCopy_38 : decode cX6_addCopy 38 = .ok (.invokevirtual 95, 3) := by decide +kernel
theorem dX6_addCopy_41 : decode cX6_addCopy 41 = .ok (.ifCond .eq 5, 3) := by decide +kernel
theorem dX6_addCopy_44 : decode cX6_addCopy 44 = .ok (.iconst (-1), 1) := by decide +kernel
theorem dX6_addCopy_45 : decode cX6_addCopy 45 = .ok (.ireturn, 1) := by decide +kernel
theorem dX6_addCopy_46 : decode cX6_addCopy 46 = .ok (.aload_n 0, 1) := by decide +kernel
theorem dX6_addCopy_47 : decode cX6_addCopy 47 = .ok (.getfield 7, 3) := by decide +kernel
theorem dX6_addCopy_50 : decode cX6_addCopy 50 = .ok (.aload_n 0, 1) := by decide +kernel
theorem dX6_addCopy_51 : decode cX6_addCopy 51 = .ok (.getfield 75, 3) := by decide +kernel
theorem dX6_addCopy_54 : decode cX6_addCopy 54 = .ok (.iload_n 1, 1) := by decide +kernel
theorem dX6_addCopy_55 : decode cX6_addCopy 55 = .ok (.iastore, 1) := by decide +kernel
theorem dX6_addCopy_56 : decode cX6_addCopy 56 = .ok (.aload_n 0, 1) := by decide +kernel
theorem dX6_addCopy_57 : decode cX6_addCopy 57 = .ok (.getfield 13, 3) := by decide +kernel
theorem dX6_addCopy_60 : decode cX6_addCopy 60 = .ok (.aload_n 0, 1) := by decide +kernel
theorem dX6_addCopy_61 : decode cX6_addCopy 61 = .ok (.getfield 75, 3) := by decide +kernel
theorem dX6_addCopy_64 : decode cX6_addCopy 64 = .ok (.iload_n 2, 1) := by decide +kernel
theorem dX6_addCopy_65 : decode cX6_addCopy 65 = .ok (.iastore, 1) := by decide +kernel
theorem dX6_addCopy_66 : decode cX6_addCopy 66 = .ok (.aload_n 0, 1) := by decide +kernel
theorem dX6_addCopy_67 : decode cX6_addCopy 67 = .ok (.getfield 16, 3) := by decide +kernel
theorem dX6_addCopy_70 : decode cX6_addCopy 70 = .ok (.aload_n 0, 1) := by decide +kernel
theorem dX6_addCopy_71 : decode cX6_addCopy 71 = .ok (.getfield 75, 3) := by decide +kernel
theorem dX6_addCopy_74 : decode cX6_addCopy 74 = .ok (.iload_n 1, 1) := by decide +kernel
theorem dX6_addCopy_75 : decode cX6_addCopy 75 = .ok (.iastore, 1) := by decide +kernel
theorem dX6_addCopy_76 : decode cX6_addCopy 76 = .ok (.aload_n 0, 1) := by decide +kernel
theorem dX6_addCopy_77 : decode cX6_addCopy 77 = .ok (.getfield 19, 3) := by decide +kernel
theorem dX6_addCopy_80 : decode cX6_addCopy 80 = .ok (.aload_n 0, 1) := by decide +kernel
theorem dX6_addCopy_81 : decode cX6_addCopy 81 = .ok (.getfield 75, 3) := by decide +kernel
theorem dX6_addCopy_84 : decode cX6_addCopy 84 = .ok (.iload_n 1, 1) := by decide +kernel
theorem dX6_addCopy_85 : decode cX6_addCopy 85 = .ok (.iastore, 1) := by decide +kernel
theorem dX6_addCopy_86 : decode cX6_addCopy 86 = .ok (.aload_n 0, 1) := by decide +kernel
theorem dX6_addCopy_87 : decode cX6_addCopy 87 = .ok (.getfield 22, 3) := by decide +kernel
theorem dX6_addCopy_90 : decode cX6_addCopy 90 = .ok (.aload_n 0, 1) := by decide +kernel
theorem dX6_addCopy_91 : decode cX6_addCopy 91 = .ok (.getfield 75, 3) := by decide +kernel
theorem dX6_addCopy_94 : decode cX6_addCopy 94 = .ok (.iconst (-1), 1) := by decide +kernel
theorem dX6_addCopy_95 : decode cX6_addCopy 95 = .ok (.iastore, 1) := by decide +kernel
theorem dX6_addCopy_96 : decode cX6_addCopy 96 = .ok (.aload_n 0, 1) := by decide +kernel
theorem dX6_addCopy_97 : decode cX6_addCopy 97 = .ok (.getfield 25, 3) := by decide +kernel
theorem dX6_addCopy_100 : decode cX6_addCopy 100 = .ok (.aload_n 0, 1) := by decide +kernel
theorem dX6_addCopy_101 : decode cX6_addCopy 101 = .ok (.getfield 75, 3) := by decide +kernel
theorem dX6_addCopy_104 : decode cX6_addCopy 104 = .ok (.iconst (-1), 1) := by decide +kernel
theorem dX6_addCopy_105 : decode cX6_addCopy 105 = .ok (.iastore, 1) := by decide +kernel
theorem dX6_addCopy_106 : decode cX6_addCopy 106 = .ok (.aload_n 0, 1) := by decide +kernel
theorem dX6_addCopy_107 : decode cX6_addCopy 107 = .ok (.aload_n 0, 1) := by decide +kernel
theorem dX6_addCopy_108 : decode cX6_addCopy 108 = .ok (.getfield 75, 3) := by decide +kernel
theorem dX6_addCopy_111 : decode cX6_addCopy 111 = .ok (.iconst 1, 1) := by decide +kernel
theorem dX6_addCopy_112 : decode cX6_addCopy 112 = .ok (.invokevirtual 98, 3) := by decide +kernel
theorem dX6_addCopy_115 : decode cX6_addCopy 115 = .ok (.aload_n 0, 1) := by decide +kernel
theorem dX6_addCopy_116 : decode cX6_addCopy 116 = .ok (.dup, 1) := by decide +kernel
theorem dX6_addCopy_117 : decode cX6_addCopy 117 = .ok (.getfield 75, 3) := by decide +kernel
theorem dX6_addCopy_120 : decode cX6_addCopy 120 = .ok (.iconst 1, 1) := by decide +kernel
theorem dX6_addCopy_121 : decode cX6_addCopy 121 = .ok (.iadd, 1) := by decide +kernel
theorem dX6_addCopy_122 : decode cX6_addCopy 122 = .ok (.putfield 75, 3) := by decide +kernel
theorem dX6_addCopy_125 : decode cX6_addCopy 125 = .ok (.aload_n 0, 1) := by decide +kernel
theorem dX6_addCopy_126 : decode cX6_addCopy 126 = .ok (.getfield 75, 3) := by decide +kernel
theorem dX6_addCopy_129 : decode cX6_addCopy 129 = .ok (.iconst 1, 1) := by decide +kernel
theorem dX6_addCopy_130 : decode cX6_addCopy 130 = .ok (.isub, 1) := by decide +kernel
theorem dX6_addCopy_131 : decode cX6_addCopy 131 = .ok (.ireturn, 1) := by decide +kernel
set_option maxRecDepth 20000 in
theorem ggX6_inHandsOf_X6_isCopy : GoodIn wsX6_inHandsOf wsX6_isCopy := goodIn_r _ [6, 7, 8, 9, 10, 5, 11, 17, 18, 19, 20, 21, 22, 23, 24, 25, 26, 27, 28, 29, 30, 31, 32, 33, 34, 35, 36, 37, 38, 39, 40] (by decide +kernel) (by decide +kernel)
set_option maxRecDepth 20000 in
theorem gX6_inHandsOf_X6_isCopy : GoodIn wsX6_inHandsOf (wsV RX6 102 RX6 yX6_isCopy wsX6_isCopy) := goodIn_app (goodIn_of _ (by decide +kernel)) ggX6_inHandsOf_X6_isCopy
set_option maxRecDepth 20000 in
theorem ggX6_inHandsOf_X6_holds : GoodIn wsX6_inHandsOf wsX6_holds := goodIn_r _ [15, 16, 17, 18, 19, 20, 21, 22, 23, 24, 25, 26, 27, 28, 29, 30, 31, 32, 33, 34, 35, 36, 37, 38, 39, 40] (by decide +kernel) (by decide +kernel)
set_option maxRecDepth 20000 in
theorem gX6_inHandsOf_X6_holds : GoodIn wsX6_inHandsOf (wsV RX6 95 RX6 yX6_holds wsX6_holds) := goodIn_app (goodIn_of _ (by decide +kernel)) ggX6_inHandsOf_X6_holds
theorem dX6_inHandsOf_0 : decode cX6_inHandsOf 0 = .ok (.aload_n 0, 1) := by decide +kernel
theorem dX6_inHandsOf_1 : decode cX6_inHandsOf 1 = .ok (.aload_n 0, 1) := by decide +kernel
theorem dX6_inHandsOf_2 : decode cX6_inHandsOf 2 = .ok (.iload_n 1, 1) := by decide +kernel
theorem dX6_inHandsOf_3 : decode cX6_inHandsOf 3 = .ok (.invokevirtual 102, 3) := by decide +kernel
theorem dX6_inHandsOf_6 : decode cX6_inHandsOf 6 = .ok (.ifCond .eq 7, 3) := by decide +kernel
theorem dX6_inHandsOf_9 : decode cX6_inHandsOf 9 = .ok (.iconst 0, 1) := by decide +kernel
theorem dX6_inHandsOf_10 : decode cX6_inHandsOf 10 = .ok (.goto 4, 3) := by decide +kernel
theorem dX6_inHandsOf_13 : decode cX6_inHandsOf 13 = .ok (.iconst 1, 1) := by decide +kernel
theorem dX6_inHandsOf_14 : decode cX6_inHandsOf 14 = .ok (.invokevirtual 95, 3) := by decide +kernel
theorem dX6_inHandsOf_17 : decode cX6_inHandsOf 17 = .ok (.ifCond .eq 7, 3) := by decide +kernel
theorem dX6_inHandsOf_20 : decode cX6_inHandsOf 20 = .ok (.iconst (-1), 1) := by decide +kernel
theorem dX6_inHandsOf_21 : decode cX6_inHandsOf 21 = .ok (.goto 9, 3) := by decide +kernel
theorem dX6_inHandsOf_24 : decode cX6_inHandsOf 24 = .ok (.aload_n 0, 1) := by decide +kernel
theorem dX6_inHandsOf_25 : decode cX6_inHandsOf 25 = .ok (.getfield 19, 3) := by decide +kernel
theorem dX6_inHandsOf_28 : decode cX6_inHandsOf 28 = .ok (.iload_n 1, 1) := by decide +kernel
theorem dX6_inHandsOf_29 : decode cX6_inHandsOf 29 = .ok (.iaload, 1) := by decide +kernel
theorem dX6_inHandsOf_30 : decode cX6_inHandsOf 30 = .ok (.ireturn, 1) := by decide +kernel
set_option maxRecDepth 20000 in
theorem ggX6_isFree_X6_isCopy : GoodIn wsX6_isFree wsX6_isCopy := goodIn_r _ [5, 6, 7, 8, 9, 4, 10, 23, 24, 25, 26, 27, 28, 29, 30, 31, 32, 33, 34, 35, 36, 37, 38, 39, 40, 41, 42, 43, 44, 45, 46] (by decide +kernel) (by decide +kernel)
set_option maxRecDepth 20000 in
theorem gX6_isFree_X6_isCopy : GoodIn wsX6_isFree (wsV RX6 102 RX6 yX6_isCopy wsX6_isCopy) := goodIn_app (goodIn_of _ (by decide +kernel)) ggX6_isFree_X6_isCopy
set_option maxRecDepth 20000 in
theorem ggX6_isFree_X6_holds : GoodIn wsX6_isFree wsX6_holds := goodIn_r _ [14, 15, 23, 24, 25, 26, 27, 28, 29, 30, 31, 32, 33, 34, 35, 36, 37, 38, 39, 40, 41, 42, 43, 44, 45, 46] (by decide +kernel) (by decide +kernel)
set_option maxRecDepth 20000 in
theorem gX6_isFree_X6_holds : GoodIn wsX6_isFree (wsV RX6 95 RX6 yX6_holds wsX6_holds) := goodIn_app (goodIn_of _ (by decide +kernel)) ggX6_isFree_X6_holds
set_option maxRecDepth 20000 in
theorem ggX6_isFree_X6_free : GoodIn wsX6_isFree wsX6_free := goodIn_r _ [19, 20, 21, 22, 23, 24, 25, 26, 27, 28, 29, 30, 31, 32, 33, 34, 35, 36, 37, 38, 39, 40, 41, 42, 43, 44, 45, 46] (by decide +kernel) (by decide +kernel)
set_option maxRecDepth 20000 in
theorem gX6_isFree_X6_free : GoodIn wsX6_isFree (wsV RX6 105 RX6 yX6_free wsX6_free) := goodIn_app (goodIn_of _ (by decide +kernel)) ggX6_isFree_X6_free
theorem dX6_isFree_0 : decode cX6_isFree 0 = .ok (.aload_n 0, 1) := by decide +kernel
theorem dX6_isFree_1 : decode cX6_isFree 1 = .ok (.aload_n 0, 1) := by decide +kernel
theorem dX6_isFree_2 : decode cX6_isFree 2 = .ok (.iload_n 1, 1) := by decide +kernel
theorem dX6_isFree_3 : decode cX6_isFree 3 = .ok (.invokevirtual 102, 3) := by decide +kernel
theorem dX6_isFree_6 : decode cX6_isFree 6 = .ok (.ifCond .eq 7, 3) := by decide +kernel
theorem dX6_isFree_9 : decode cX6_isFree 9 = .ok (.iconst 0, 1) := by decide +kernel
theorem dX6_isFree_10 : decode cX6_isFree 10 = .ok (.goto 4, 3) := by decide +kernel
theorem dX6_isFree_13 : decode cX6_isFree 13 = .ok (.iconst 1, 1) := by decide +kernel
theorem dX6_isFree_14 : decode cX6_isFree 14 = .ok (.invokevirtual 95, 3) := by decide +kernel
theorem dX6_isFree_17 : decode cX6_isFree 17 = .ok (.ifCond .ne 15, 3) := by decide +kernel
theorem dX6_isFree_20 : decode cX6_isFree 20 = .ok (.aload_n 0, 1) := by decide +kernel
theorem dX6_isFree_21 : decode cX6_isFree 21 = .ok (.iload_n 1, 1) := by decide +kernel
theorem dX6_isFree_22 : decode cX6_isFree 22 = .ok (.invokevirtual 105, 3) := by decide +kernel
theorem dX6_isFree_25 : decode cX6_isFree 25 = .ok (.ifCond .eq 7, 3) := by decide +kernel
theorem dX6_isFree_28 : decode cX6_isFree 28 = .ok (.iconst 1, 1) := by decide +kernel
theorem dX6_isFree_29 : decode cX6_isFree 29 = .ok (.goto 4, 3) := by decide +kernel
theorem dX6_isFree_32 : decode cX6_isFree 32 = .ok (.iconst 0, 1) := by decide +kernel
theorem dX6_isFree_33 : decode cX6_isFree 33 = .ok (.ireturn, 1) := by decide +kernel
set_option maxRecDepth 20000 in
theorem ggX6_listed_X6_isCopy : GoodIn wsX6_listed wsX6_isCopy := goodIn_r _ [6, 7, 8, 9, 10, 5, 11, 17, 18, 19, 20, 21, 22, 23, 24, 25, 26, 27, 28, 29, 30, 31, 32, 33, 34, 35, 36, 37, 38, 39, 40] (by decide +kernel) (by decide +kernel)
set_option maxRecDepth 20000 in
theorem gX6_listed_X6_isCopy : GoodIn wsX6_listed (wsV RX6 102 RX6 yX6_isCopy wsX6_isCopy) := goodIn_app (goodIn_of _ (by decide +kernel)) ggX6_listed_X6_isCopy
set_option maxRecDepth 20000 in
theorem ggX6_listed_X6_holds : GoodIn wsX6_listed wsX6_holds := goodIn_r _ [15, 16, 17, 18, 19, 20, 21, 22, 23, 24, 25, 26, 27, 28, 29, 30, 31, 32, 33, 34, 35, 36, 37, 38, 39, 40] (by decide +kernel) (by decide +kernel)
set_option maxRecDepth 20000 in
theorem gX6_listed_X6_holds : GoodIn wsX6_listed (wsV RX6 95 RX6 yX6_holds wsX6_holds) := goodIn_app (goodIn_of _ (by decide +kernel)) ggX6_listed_X6_holds
theorem dX6_listed_0 : decode cX6_listed 0 = .ok (.aload_n 0, 1) := by decide +kernel
theorem dX6_listed_1 : decode cX6_listed 1 = .ok (.aload_n 0, 1) := by decide +kernel
theorem dX6_listed_2 : decode cX6_listed 2 = .ok (.iload_n 1, 1) := by decide +kernel
theorem dX6_listed_3 : decode cX6_listed 3 = .ok (.invokevirtual 102, 3) := by decide +kernel
theorem dX6_listed_6 : decode cX6_listed 6 = .ok (.ifCond .eq 7, 3) := by decide +kernel
theorem dX6_listed_9 : decode cX6_listed 9 = .ok (.iconst 0, 1) := by decide +kernel
theorem dX6_listed_10 : decode cX6_listed 10 = .ok (.goto 4, 3) := by decide +kernel
theorem dX6_listed_13 : decode cX6_listed 13 = .ok (.iconst 1, 1) := by decide +kernel
theorem dX6_listed_14 : decode cX6_listed 14 = .ok (.invokevirtual 95, 3) := by decide +kernel
theorem dX6_listed_17 : decode cX6_listed 17 = .ok (.ifCond .eq 7, 3) := by decide +kernel
theorem dX6_listed_20 : decode cX6_listed 20 = .ok (.iconst (-1), 1) := by decide +kernel
theorem dX6_listed_21 : decode cX6_listed 21 = .ok (.goto 9, 3) := by decide +kernel
theorem dX6_listed_24 : decode cX6_listed 24 = .ok (.aload_n 0, 1) := by decide +kernel
theorem dX6_listed_25 : decode cX6_listed 25 = .ok (.getfield 22, 3) := by decide +kernel
theorem dX6_listed_28 : decode cX6_listed 28 = .ok (.iload_n 1, 1) := by decide +kernel
theorem dX6_listed_29 : decode cX6_listed 29 = .ok (.iaload, 1) := by decide +kernel
theorem dX6_listed_30 : decode cX6_listed 30 = .ok (.ireturn, 1) := by decide +kernel
set_option maxRecDepth 20000 in
theorem ggX6_harm_X6_isCopy : GoodIn wsX6_harm wsX6_isCopy := goodIn_r _ [7, 8, 9, 10, 11, 6, 12, 18, 19, 20, 21, 22, 23, 24, 25, 26, 27, 28, 29, 30, 31, 32, 33, 34, 35, 36, 37, 38, 39, 40, 41] (by decide +kernel) (by decide +kernel)
set_option maxRecDepth 20000 in
theorem gX6_harm_X6_isCopy : GoodIn wsX6_harm (wsV RX6 102 RX6 yX6_isCopy wsX6_isCopy) := goodIn_app (goodIn_of _ (by decide +kernel)) ggX6_harm_X6_isCopy
set_option maxRecDepth 20000 in
theorem ggX6_harm_X6_holds : GoodIn wsX6_harm wsX6_holds := goodIn_r _ [16, 17, 18, 19, 20, 21, 22, 23, 24, 25, 26, 27, 28, 29, 30, 31, 32, 33, 34, 35, 36, 37, 38, 39, 40, 41] (by decide +kernel) (by decide +kernel)
set_option maxRecDepth 20000 in
theorem gX6_harm_X6_holds : GoodIn wsX6_harm (wsV RX6 95 RX6 yX6_holds wsX6_holds) := goodIn_app (goodIn_of _ (by decide +kernel)) ggX6_harm_X6_holds
theorem dX6_harm_0 : decode cX6_harm 0 = .ok (.aload_n 0, 1) := by decide +kernel
theorem dX6_harm_1 : decode cX6_harm 1 = .ok (.aload_n 0, 1) := by decide +kernel
theorem dX6_harm_2 : decode cX6_harm 2 = .ok (.iload_n 1, 1) := by decide +kernel
theorem dX6_harm_3 : decode cX6_harm 3 = .ok (.invokevirtual 102, 3) := by decide +kernel
theorem dX6_harm_6 : decode cX6_harm 6 = .ok (.ifCond .ne 7, 3) := by decide +kernel
theorem dX6_harm_9 : decode cX6_harm 9 = .ok (.iconst 1, 1) := by decide +kernel
theorem dX6_harm_10 : decode cX6_harm 10 = .ok (.goto 17, 3) := by decide +kernel
theorem dX6_harm_13 : decode cX6_harm 13 = .ok (.aload_n 0, 1) := by decide +kernel
theorem dX6_harm_14 : decode cX6_harm 14 = .ok (.getfield 25, 3) := by decide +kernel
theorem dX6_harm_17 : decode cX6_harm 17 = .ok (.iload_n 1, 1) := by decide +kernel
theorem dX6_harm_18 : decode cX6_harm 18 = .ok (.iaload, 1) := by decide +kernel
theorem dX6_harm_19 : decode cX6_harm 19 = .ok (.ifCond .lt 7, 3) := by decide +kernel
theorem dX6_harm_22 : decode cX6_harm 22 = .ok (.iconst 2, 1) := by decide +kernel
theorem dX6_harm_23 : decode cX6_harm 23 = .ok (.goto 4, 3) := by decide +kernel
theorem dX6_harm_26 : decode cX6_harm 26 = .ok (.iconst 0, 1) := by decide +kernel
theorem dX6_harm_27 : decode cX6_harm 27 = .ok (.invokevirtual 95, 3) := by decide +kernel
theorem dX6_harm_30 : decode cX6_harm 30 = .ok (.ifCond .eq 5, 3) := by decide +kernel
theorem dX6_harm_33 : decode cX6_harm 33 = .ok (.iconst (-1), 1) := by decide +kernel
theorem dX6_harm_34 : decode cX6_harm 34 = .ok (.ireturn, 1) := by decide +kernel
theorem dX6_harm_35 : decode cX6_harm 35 = .ok (.aload_n 0, 1) := by decide +kernel
theorem dX6_harm_36 : decode cX6_harm 36 = .ok (.getfield 25, 3) := by decide +kernel
theorem dX6_harm_39 : decode cX6_harm 39 = .ok (.iload_n 1, 1) := by decide +kernel
theorem dX6_harm_40 : decode cX6_harm 40 = .ok (.aload_n 0, 1) := by decide +kernel
theorem dX6_harm_41 : decode cX6_harm 41 = .ok (.getfield 19, 3) := by decide +kernel
theorem dX6_harm_44 : decode cX6_harm 44 = .ok (.iload_n 1, 1) := by decide +kernel
theorem dX6_harm_45 : decode cX6_harm 45 = .ok (.iaload, 1) := by decide +kernel
theorem dX6_harm_46 : decode cX6_harm 46 = .ok (.iastore, 1) := by decide +kernel
theorem dX6_harm_47 : decode cX6_harm 47 = .ok (.aload_n 0, 1) := by decide +kernel
theorem dX6_harm_48 : decode cX6_harm 48 = .ok (.getfield 19, 3) := by decide +kernel
theorem dX6_harm_51 : decode cX6_harm 51 = .ok (.iload_n 1, 1) := by decide +kernel
theorem dX6_harm_52 : decode cX6_harm 52 = .ok (.iaload, 1) := by decide +kernel
theorem dX6_harm_53 : decode cX6_harm 53 = .ok (.ireturn, 1) := by decide +kernel
set_option maxRecDepth 20000 in
theorem ggX6_find_X6_owe : GoodIn wsX6_find wsX6_owe := goodIn_r _ [8, 9, 10, 11, 12, 13, 14, 15, 16, 17, 18, 19, 20, 21, 22, 23, 24, 25, 26, 27, 28, 29, 30, 31, 32, 33] (by decide +kernel) (by decide +kernel)
set_option maxRecDepth 20000 in
theorem gX6_find_X6_owe : GoodIn wsX6_find (wsV RX6 108 RX6 yX6_owe wsX6_owe) := goodIn_app (goodIn_of _ (by decide +kernel)) ggX6_find_X6_owe
theorem dX6_find_0 : decode cX6_find 0 = .ok (.aload_n 0, 1) := by decide +kernel
theorem dX6_find_1 : decode cX6_find 1 = .ok (.getfield 25, 3) := by decide +kernel
theorem dX6_find_4 : decode cX6_find 4 = .ok (.iload_n 1, 1) := by decide +kernel
theorem dX6_find_5 : decode cX6_find 5 = .ok (.iaload, 1) := by decide +kernel
theorem dX6_find_6 : decode cX6_find 6 = .ok (.ifCond .lt 13, 3) := by decide +kernel
theorem dX6_find_9 : decode cX6_find 9 = .ok (.aload_n 0, 1) := by decide +kernel
theorem dX6_find_10 : decode cX6_find 10 = .ok (.getfield 28, 3) := by decide +kernel
theorem dX6_find_13 : decode cX6_find 13 = .ok (.iload_n 1, 1) := by decide +kernel
theorem dX6_find_14 : decode cX6_find 14 = .ok (.iaload, 1) := by decide +kernel
theorem dX6_find_15 : decode cX6_find 15 = .ok (.iconst 1, 1) := by decide +kernel
theorem dX6_find_16 : decode cX6_find 16 = .ok (.if_icmp .ne 5, 3) := by decide +kernel
theorem dX6_find_19 : decode cX6_find 19 = .ok (.iconst (-1), 1) := by decide +kernel
theorem dX6_find_20 : decode cX6_find 20 = .ok (.ireturn, 1) := by decide +kernel
theorem dX6_find_21 : decode cX6_find 21 = .ok (.aload_n 0, 1) := by decide +kernel
theorem dX6_find_22 : decode cX6_find 22 = .ok (.getfield 28, 3) := by decide +kernel
theorem dX6_find_25 : decode cX6_find 25 = .ok (.iload_n 1, 1) := by decide +kernel
theorem dX6_find_26 : decode cX6_find 26 = .ok (.iconst 1, 1) := by decide +kernel
theorem dX6_find_27 : decode cX6_find 27 = .ok (.iastore, 1) := by decide +kernel
theorem dX6_find_28 : decode cX6_find 28 = .ok (.aload_n 0, 1) := by decide +kernel
theorem dX6_find_29 : decode cX6_find 29 = .ok (.getfield 25, 3) := by decide +kernel
theorem dX6_find_32 : decode cX6_find 32 = .ok (.iload_n 1, 1) := by decide +kernel
theorem dX6_find_33 : decode cX6_find 33 = .ok (.iaload, 1) := by decide +kernel
theorem dX6_find_34 : decode cX6_find 34 = .ok (.aload_n 0, 1) := by decide +kernel
theorem dX6_find_35 : decode cX6_find 35 = .ok (.getfield 7, 3) := by decide +kernel
theorem dX6_find_38 : decode cX6_find 38 = .ok (.iload_n 1, 1) := by decide +kernel
theorem dX6_find_39 : decode cX6_find 39 = .ok (.iaload, 1) := by decide +kernel
theorem dX6_find_40 : decode cX6_find 40 = .ok (.if_icmp .eq 21, 3) := by decide +kernel
theorem dX6_find_43 : decode cX6_find 43 = .ok (.aload_n 0, 1) := by decide +kernel
theorem dX6_find_44 : decode cX6_find 44 = .ok (.aload_n 0, 1) := by decide +kernel
theorem dX6_find_45 : decode cX6_find 45 = .ok (.getfield 25, 3) := by decide +kernel
theorem dX6_find_48 : decode cX6_find 48 = .ok (.iload_n 1, 1) := by decide +kernel
theorem dX6_find_49 : decode cX6_find 49 = .ok (.iaload, 1) := by decide +kernel
theorem dX6_find_50 : decode cX6_find 50 = .ok (.aload_n 0, 1) := by decide +kernel
theorem dX6_find_51 : decode cX6_find 51 = .ok (.getfield 7, 3) := by decide +kernel
theorem dX6_find_54 : decode cX6_find 54 = .ok (.iload_n 1, 1) := by decide +kernel
theorem dX6_find_55 : decode cX6_find 55 = .ok (.iaload, 1) := by decide +kernel
theorem dX6_find_56 : decode cX6_find 56 = .ok (.bipush 30, 2) := by decide +kernel
theorem dX6_find_58 : decode cX6_find 58 = .ok (.invokevirtual 108, 3) := by decide +kernel
theorem dX6_find_61 : decode cX6_find 61 = .ok (.aload_n 0, 1) := by decide +kernel
theorem dX6_find_62 : decode cX6_find 62 = .ok (.getfield 25, 3) := by decide +kernel
theorem dX6_find_65 : decode cX6_find 65 = .ok (.iload_n 1, 1) := by decide +kernel
theorem dX6_find_66 : decode cX6_find 66 = .ok (.iaload, 1) := by decide +kernel
theorem dX6_find_67 : decode cX6_find 67 = .ok (.ireturn, 1) := by decide +kernel
set_option maxRecDepth 20000 in
theorem ggX6_look_X6_isCopy : GoodIn wsX6_look wsX6_isCopy := goodIn_r _ [6, 7, 8, 9, 10, 5, 11, 29, 30, 31, 32, 33, 34, 35, 36, 37, 38, 39, 40, 41, 42, 43, 44, 45, 46, 47, 48, 49, 50, 51, 52] (by decide +kernel) (by decide +kernel)
set_option maxRecDepth 20000 in
theorem gX6_look_X6_isCopy : GoodIn wsX6_look (wsV RX6 102 RX6 yX6_isCopy wsX6_isCopy) := goodIn_app (goodIn_of _ (by decide +kernel)) ggX6_look_X6_isCopy
set_option maxRecDepth 20000 in
theorem ggX6_look_X6_holds : GoodIn wsX6_look wsX6_holds := goodIn_r _ [15, 16, 29, 30, 31, 32, 33, 34, 35, 36, 37, 38, 39, 40, 41, 42, 43, 44, 45, 46, 47, 48, 49, 50, 51, 52] (by decide +kernel) (by decide +kernel)
set_option maxRecDepth 20000 in
theorem gX6_look_X6_holds : GoodIn wsX6_look (wsV RX6 95 RX6 yX6_holds wsX6_holds) := goodIn_app (goodIn_of _ (by decide +kernel)) ggX6_look_X6_holds
set_option maxRecDepth 20000 in
theorem ggX6_look_X6_find : GoodIn wsX6_look wsX6_find := goodIn_r _ [20, 21, 22, 23, 24, 25, 26, 5, 27, 28, 29, 30, 31, 32, 33, 34, 35, 36, 37, 38, 39, 40, 41, 42, 43, 44, 45, 46, 47, 48, 49, 50, 51, 52] (by decide +kernel) (by decide +kernel)
set_option maxRecDepth 20000 in
theorem gX6_look_X6_find : GoodIn wsX6_look (wsV RX6 112 RX6 yX6_find wsX6_find) := goodIn_app (goodIn_of _ (by decide +kernel)) ggX6_look_X6_find
theorem dX6_look_0 : decode cX6_look 0 = .ok (.aload_n 0, 1) := by decide +kernel
theorem dX6_look_1 : decode cX6_look 1 = .ok (.aload_n 0, 1) := by decide +kernel
theorem dX6_look_2 : decode cX6_look 2 = .ok (.iload_n 1, 1) := by decide +kernel
theorem dX6_look_3 : decode cX6_look 3 = .ok (.invokevirtual 102, 3) := by decide +kernel
theorem dX6_look_6 : decode cX6_look 6 = .ok (.ifCond .ne 7, 3) := by decide +kernel
theorem dX6_look_9 : decode cX6_look 9 = .ok (.iconst 1, 1) := by decide +kernel
theorem dX6_look_10 : decode cX6_look 10 = .ok (.goto 17, 3) := by decide +kernel
theorem dX6_look_13 : decode cX6_look 13 = .ok (.aload_n 0, 1) := by decide +kernel
theorem dX6_look_14 : decode cX6_look 14 = .ok (.getfield 16, 3) := by decide +kernel
theorem dX6_look_17 : decode cX6_look 17 = .ok (.iload_n 1, 1) := by decide +kernel
theorem dX6_look_18 : decode cX6_look 18 = .ok (.iaload, 1) := by decide +kernel
theorem dX6_look_19 : decode cX6_look 19 = .ok (.ifCond .ge 7, 3) := by decide +kernel
theorem dX6_look_22 : decode cX6_look 22 = .ok (.iconst 2, 1) := by decide +kernel
theorem dX6_look_23 : decode cX6_look 23 = .ok (.goto 4, 3) := by decide +kernel
theorem dX6_look_26 : decode cX6_look 26 = .ok (.iconst 0, 1) := by decide +kernel
theorem dX6_look_27 : decode cX6_look 27 = .ok (.invokevirtual 95, 3) := by decide +kernel
theorem dX6_look_30 : decode cX6_look 30 = .ok (.ifCond .eq 7, 3) := by decide +kernel
theorem dX6_look_33 : decode cX6_look 33 = .ok (.iconst (-1), 1) := by decide +kernel
theorem dX6_look_34 : decode cX6_look 34 = .ok (.goto 8, 3) := by decide +kernel
theorem dX6_look_37 : decode cX6_look 37 = .ok (.aload_n 0, 1) := by decide +kernel
theorem dX6_look_38 : decode cX6_look 38 = .ok (.iload_n 1, 1) := by decide +kernel
theorem dX6_look_39 : decode cX6_look 39 = .ok (.invokevirtual 112, 3) := by decide +kernel
theorem dX6_look_42 : decode cX6_look 42 = .ok (.ireturn, 1) := by decide +kernel
set_option maxRecDepth 20000 in
theorem ggX6_mend_X6_isCopy : GoodIn wsX6_mend wsX6_isCopy := goodIn_r _ [9, 10, 11, 12, 13, 8, 14, 33, 34, 35, 36, 37, 38, 39, 40, 41, 42, 43, 44, 45, 46, 47, 48, 49, 50, 51, 52, 53, 54, 55, 56] (by decide +kernel) (by decide +kernel)
set_option maxRecDepth 20000 in
theorem gX6_mend_X6_isCopy : GoodIn wsX6_mend (wsV RX6 102 RX6 yX6_isCopy wsX6_isCopy) := goodIn_app (goodIn_of _ (by decide +kernel)) ggX6_mend_X6_isCopy
set_option maxRecDepth 20000 in
theorem ggX6_mend_X6_holds : GoodIn wsX6_mend wsX6_holds := goodIn_r _ [18, 19, 33, 34, 35, 36, 37, 38, 39, 40, 41, 42, 43, 44, 45, 46, 47, 48, 49, 50, 51, 52, 53, 54, 55, 56] (by decide +kernel) (by decide +kernel)
set_option maxRecDepth 20000 in
theorem gX6_mend_X6_holds : GoodIn wsX6_mend (wsV RX6 95 RX6 yX6_holds wsX6_holds) := goodIn_app (goodIn_of _ (by decide +kernel)) ggX6_mend_X6_holds
set_option maxRecDepth 20000 in
theorem ggX6_mend_X6_tell : GoodIn wsX6_mend wsX6_tell := goodIn_r _ [23, 2, 24, 25, 26, 8, 27, 28, 29, 30, 31, 32, 33, 34, 35, 36, 37, 38, 39, 40, 41, 42, 43, 44, 45, 46, 47, 48, 49, 50, 51, 52, 53, 54, 55, 56] (by decide +kernel) (by decide +kernel)
set_option maxRecDepth 20000 in
theorem gX6_mend_X6_tell : GoodIn wsX6_mend (wsV RX6 98 RX6 yX6_tell wsX6_tell) := goodIn_app (goodIn_of _ (by decide +kernel)) ggX6_mend_X6_tell
theorem dX6_mend_0 : decode cX6_mend 0 = .ok (.aload_n 0, 1) := by decide +kernel
theorem dX6_mend_1 : decode cX6_mend 1 = .ok (.aload_n 0, 1) := by decide +kernel
theorem dX6_mend_2 : decode cX6_mend 2 = .ok (.iload_n 1, 1) := by decide +kernel
theorem dX6_mend_3 : decode cX6_mend 3 = .ok (.invokevirtual 102, 3) := by decide +kernel
theorem dX6_mend_6 : decode cX6_mend 6 = .ok (.ifCond .ne 7, 3) := by decide +kernel
theorem dX6_mend_9 : decode cX6_mend 9 = .ok (.iconst 1, 1) := by decide +kernel
theorem dX6_mend_10 : decode cX6_mend 10 = .ok (.goto 32, 3) := by decide +kernel
theorem dX6_mend_13 : decode cX6_mend 13 = .ok (.aload_n 0, 1) := by decide +kernel
theorem dX6_mend_14 : decode cX6_mend 14 = .ok (.getfield 16, 3) := by decide +kernel
theorem dX6_mend_17 : decode cX6_mend 17 = .ok (.iload_n 1, 1) := by decide +kernel
theorem dX6_mend_18 : decode cX6_mend 18 = .ok (.iaload, 1) := by decide +kernel
theorem dX6_mend_19 : decode cX6_mend 19 = .ok (.aload_n 0, 1) := by decide +kernel
theorem dX6_mend_20 : decode cX6_mend 20 = .ok (.getfield 7, 3) := by decide +kernel
theorem dX6_mend_23 : decode cX6_mend 23 = .ok (.iload_n 1, 1) := by decide +kernel
theorem dX6_mend_24 : decode cX6_mend 24 = .ok (.iaload, 1) := by decide +kernel
theorem dX6_mend_25 : decode cX6_mend 25 = .ok (.if_icmp .ne 12, 3) := by decide +kernel
theorem dX6_mend_28 : decode cX6_mend 28 = .ok (.aload_n 0, 1) := by decide +kernel
theorem dX6_mend_29 : decode cX6_mend 29 = .ok (.getfield 28, 3) := by decide +kernel
theorem dX6_mend_32 : decode cX6_mend 32 = .ok (.iload_n 1, 1) := by decide +kernel
theorem dX6_mend_33 : decode cX6_mend 33 = .ok (.iaload, 1) := by decide +kernel
theorem dX6_mend_34 : decode cX6_mend 34 = .ok (.ifCond .ne 7, 3) := by decide +kernel
theorem dX6_mend_37 : decode cX6_mend 37 = .ok (.iconst 2, 1) := by decide +kernel
theorem dX6_mend_38 : decode cX6_mend 38 = .ok (.goto 4, 3) := by decide +kernel
theorem dX6_mend_41 : decode cX6_mend 41 = .ok (.iconst 0, 1) := by decide +kernel
theorem dX6_mend_42 : decode cX6_mend 42 = .ok (.invokevirtual 95, 3) := by decide +kernel
theorem dX6_mend_45 : decode cX6_mend 45 = .ok (.ifCond .ne 23, 3) := by decide +kernel
theorem dX6_mend_48 : decode cX6_mend 48 = .ok (.aload_n 0, 1) := by decide +kernel
theorem dX6_mend_49 : decode cX6_mend 49 = .ok (.getfield 25, 3) := by decide +kernel
theorem dX6_mend_52 : decode cX6_mend 52 = .ok (.iload_n 1, 1) := by decide +kernel
theorem dX6_mend_53 : decode cX6_mend 53 = .ok (.iconst (-1), 1) := by decide +kernel
theorem dX6_mend_54 : decode cX6_mend 54 = .ok (.iastore, 1) := by decide +kernel
theorem dX6_mend_55 : decode cX6_mend 55 = .ok (.aload_n 0, 1) := by decide +kernel
theorem dX6_mend_56 : decode cX6_mend 56 = .ok (.getfield 28, 3) := by decide +kernel
theorem dX6_mend_59 : decode cX6_mend 59 = .ok (.iload_n 1, 1) := by decide +kernel
theorem dX6_mend_60 : decode cX6_mend 60 = .ok (.iconst 0, 1) := by decide +kernel
theorem dX6_mend_61 : decode cX6_mend 61 = .ok (.iastore, 1) := by decide +kernel
theorem dX6_mend_62 : decode cX6_mend 62 = .ok (.aload_n 0, 1) := by decide +kernel
theorem dX6_mend_63 : decode cX6_mend 63 = .ok (.iload_n 1, 1) := by decide +kernel
theorem dX6_mend_64 : decode cX6_mend 64 = .ok (.iconst 1, 1) := by decide +kernel
theorem dX6_mend_65 : decode cX6_mend 65 = .ok (.invokevirtual 98, 3) := by decide +kernel
theorem dX6_mend_68 : decode cX6_mend 68 = .ok (.return_, 1) := by decide +kernel
set_option maxRecDepth 20000 in
theorem ggX6_ask_X6_way : GoodIn wsX6_ask wsX6_way := goodIn_r _ [14] (by decide +kernel) (by decide +kernel)
set_option maxRecDepth 20000 in
theorem gX6_ask_X6_way : GoodIn wsX6_ask (wsV RX6 116 RX6 yX6_way wsX6_way) := goodIn_app (goodIn_of _ (by decide +kernel)) ggX6_ask_X6_way
set_option maxRecDepth 20000 in
theorem ggX6_ask_X6_send : GoodIn wsX6_ask wsX6_send := goodIn_r _ [18, 19, 20, 21, 22, 23, 24, 25, 26, 27, 28, 29, 30, 31, 32, 33, 34, 35, 36, 37, 38, 39, 40, 41, 42, 43, 44, 45, 46, 47] (by decide +kernel) (by decide +kernel)
set_option maxRecDepth 20000 in
theorem gX6_ask_X6_send : GoodIn wsX6_ask (wsV RX6 87 RX6 yX6_send wsX6_send) := goodIn_app (goodIn_of _ (by decide +kernel)) ggX6_ask_X6_send
theorem dX6_ask_0 : decode cX6_ask 0 = .ok (.iconst (-1), 1) := by decide +kernel
theorem dX6_ask_1 : decode cX6_ask 1 = .ok (.istore_n 2, 1) := by decide +kernel
theorem dX6_ask_2 : decode cX6_ask 2 = .ok (.iconst 0, 1) := by decide +kernel
theorem dX6_ask_3 : decode cX6_ask 3 = .ok (.istore_n 3, 1) := by decide +kernel
theorem dX6_ask_4 : decode cX6_ask 4 = .ok (.iload_n 3, 1) := by decide +kernel
theorem dX6_ask_5 : decode cX6_ask 5 = .ok (.aload_n 0, 1) := by decide +kernel
theorem dX6_ask_6 : decode cX6_ask 6 = .ok (.getfield 75, 3) := by decide +kernel
theorem dX6_ask_9 : decode cX6_ask 9 = .ok (.if_icmp .ge 120, 3) := by decide +kernel
theorem dX6_ask_12 : decode cX6_ask 12 = .ok (.aload_n 0, 1) := by decide +kernel
theorem dX6_ask_13 : decode cX6_ask 13 = .ok (.getfield 13, 3) := by decide +kernel
theorem dX6_ask_16 : decode cX6_ask 16 = .ok (.iload_n 3, 1) := by decide +kernel
theorem dX6_ask_17 : decode cX6_ask 17 = .ok (.iaload, 1) := by decide +kernel
theorem dX6_ask_18 : decode cX6_ask 18 = .ok (.aload_n 0, 1) := by decide +kernel
theorem dX6_ask_19 : decode cX6_ask 19 = .ok (.getfield 34, 3) := by decide +kernel
theorem dX6_ask_22 : decode cX6_ask 22 = .ok (.iload_n 1, 1) := by decide +kernel
theorem dX6_ask_23 : decode cX6_ask 23 = .ok (.iaload, 1) := by decide +kernel
theorem dX6_ask_24 : decode cX6_ask 24 = .ok (.if_icmp .ne 50, 3) := by decide +kernel
theorem dX6_ask_27 : decode cX6_ask 27 = .ok (.aload_n 0, 1) := by decide +kernel
theorem dX6_ask_28 : decode cX6_ask 28 = .ok (.getfield 22, 3) := by decide +kernel
theorem dX6_ask_31 : decode cX6_ask 31 = .ok (.iload_n 3, 1) := by decide +kernel
theorem dX6_ask_32 : decode cX6_ask 32 = .ok (.iaload, 1) := by decide +kernel
theorem dX6_ask_33 : decode cX6_ask 33 = .ok (.iconst 1, 1) := by decide +kernel
theorem dX6_ask_34 : decode cX6_ask 34 = .ok (.if_icmp .ne 40, 3) := by decide +kernel
theorem dX6_ask_37 : decode cX6_ask 37 = .ok (.aload_n 0, 1) := by decide +kernel
theorem dX6_ask_38 : decode cX6_ask 38 = .ok (.getfield 7, 3) := by decide +kernel
theorem dX6_ask_41 : decode cX6_ask 41 = .ok (.iload_n 3, 1) := by decide +kernel
theorem dX6_ask_42 : decode cX6_ask 42 = .ok (.iaload, 1) := by decide +kernel
theorem dX6_ask_43 : decode cX6_ask 43 = .ok (.aload_n 0, 1) := by decide +kernel
theorem dX6_ask_44 : decode cX6_ask 44 = .ok (.getfield 31, 3) := by decide +kernel
theorem dX6_ask_47 : decode cX6_ask 47 = .ok (.iload_n 1, 1) := by decide +kernel
theorem dX6_ask_48 : decode cX6_ask 48 = .ok (.iaload, 1) := by decide +kernel
theorem dX6_ask_49 : decode cX6_ask 49 = .ok (.if_icmp .eq 25, 3) := by decide +kernel
theorem dX6_ask_52 : decode cX6_ask 52 = .ok (.aload_n 0, 1) := by decide +kernel
theorem dX6_ask_53 : decode cX6_ask 53 = .ok (.getfield 46, 3) := by decide +kernel
theorem dX6_ask_56 : decode cX6_ask 56 = .ok (.iload_n 1, 1) := by decide +kernel
theorem dX6_ask_57 : decode cX6_ask 57 = .ok (.iaload, 1) := by decide +kernel
theorem dX6_ask_58 : decode cX6_ask 58 = .ok (.aload_n 0, 1) := by decide +kernel
theorem dX6_ask_59 : decode cX6_ask 59 = .ok (.getfield 7, 3) := by decide +kernel
theorem dX6_ask_62 : decode cX6_ask 62 = .ok (.iload_n 3, 1) := by decide +kernel
theorem dX6_ask_63 : decode cX6_ask 63 = .ok (.iaload, 1) := by decide +kernel
theorem dX6_ask_64 : decode cX6_ask 64 = .ok (.ishr, 1) := by decide +kernel
theorem dX6_ask_65 : decode cX6_ask 65 = .ok (.iconst 1, 1) := by decide +kernel
theorem dX6_ask_66 : decode cX6_ask 66 = .ok (.iand, 1) := by decide +kernel
theorem dX6_ask_67 : decode cX6_ask 67 = .ok (.ifCond .ne 7, 3) := by decide +kernel
theorem dX6_ask_70 : decode cX6_ask 70 = .ok (.iconst 1, 1) := by decide +kernel
theorem dX6_ask_71 : decode cX6_ask 71 = .ok (.goto 4, 3) := by decide +kernel
theorem dX6_ask_74 : decode cX6_ask 74 = .ok (.iconst 0, 1) := by decide +kernel
theorem dX6_ask_75 : decode cX6_ask 75 = .ok (.istore 4, 2) := by decide +kernel
theorem dX6_ask_77 : decode cX6_ask 77 = .ok (.iload 4, 2) := by decide +kernel
theorem dX6_ask_79 : decode cX6_ask 79 = .ok (.ifCond .eq 44, 3) := by decide +kernel
theorem dX6_ask_82 : decode cX6_ask 82 = .ok (.iload_n 2, 1) := by decide +kernel
theorem dX6_ask_83 : decode cX6_ask 83 = .ok (.ifCond .lt 38, 3) := by decide +kernel
theorem dX6_ask_86 : decode cX6_ask 86 = .ok (.aload_n 0, 1) := by decide +kernel
theorem dX6_ask_87 : decode cX6_ask 87 = .ok (.aload_n 0, 1) := by decide +kernel
theorem dX6_ask_88 : decode cX6_ask 88 = .ok (.getfield 7, 3) := by decide +kernel
theorem dX6_ask_91 : decode cX6_ask 91 = .ok (.iload_n 3, 1) := by decide +kernel
theorem dX6_ask_92 : decode cX6_ask 92 = .ok (.iaload, 1) := by decide +kernel
theorem dX6_ask_93 : decode cX6_ask 93 = .ok (.aload_n 0, 1) := by decide +kernel
theorem dX6_ask_94 : decode cX6_ask 94 = .ok (.getfield 31, 3) := by decide +kernel
theorem dX6_ask_97 : decode cX6_ask 97 = .ok (.iload_n 1, 1) := by decide +kernel
theorem dX6_ask_98 : decode cX6_ask 98 = .ok (.iaload, 1) := by decide +kernel
theorem dX6_ask_99 : decode cX6_ask 99 = .ok (.invokevirtual 116, 3) := by decide +kernel
theorem dX6_ask_102 : decode cX6_ask 102 = .ok (.aload_n 0, 1) := by decide +kernel
theorem dX6_ask_103 : decode cX6_ask 103 = .ok (.aload_n 0, 1) := by decide +kernel
theorem dX6_ask_104 : decode cX6_ask 104 = .ok (.getfield 7, 3) := by decide +kernel
theorem dX6_ask_107 : decode cX6_ask 107 = .ok (.iload_n 2, 1) := by decide +kernel
theorem dX6_ask_108 : decode cX6_ask 108 = .ok (.iaload, 1) := by decide +kernel
theorem dX6_ask_109 : decode cX6_ask 109 = .ok (.aload_n 0, 1) := by decide +kernel
theorem dX6_ask_110 : decode cX6_ask 110 = .ok (.getfield 31, 3) := by decide +kernel
theorem dX6_ask_113 : decode cX6_ask 113 = .ok (.iload_n 1, 1) := by decide +kernel
theorem dX6_ask_114 : decode cX6_ask 114 = .ok (.iaload, 1) := by decide +kernel
theorem dX6_ask_115 : decode cX6_ask 115 = .ok (.invokevirtual 116, 3) := by decide +kernel
theorem dX6_ask_118 : decode cX6_ask 118 = .ok (.if_icmp .ge 5, 3) := by decide +kernel
theorem dX6_ask_121 : decode cX6_ask 121 = .ok (.iload_n 3, 1) := by decide +kernel
theorem dX6_ask_122 : decode cX6_ask 122 = .ok (.istore_n 2, 1) := by decide +kernel
theorem dX6_ask_123 : decode cX6_ask 123 = .ok (.iinc 3 1, 3) := by decide +kernel
theorem dX6_ask_126 : decode cX6_ask 126 = .ok (.goto (-122), 3) := by decide +kernel
theorem dX6_ask_129 : decode cX6_ask 129 = .ok (.aload_n 0, 1) := by decide +kernel
theorem dX6_ask_130 : decode cX6_ask 130 = .ok (.getfield 40, 3) := by decide +kernel
theorem dX6_ask_133 : decode cX6_ask 133 = .ok (.iload_n 1, 1) := by decide +kernel
theorem dX6_ask_134 : decode cX6_ask 134 = .ok (.iload_n 2, 1) := by decide +kernel
end
section
theorem dX6_ask_135 : decode cX6_ask 135 = .ok (.iastore, 1) := by decide +kernel
theorem dX6_ask_136 : decode cX6_ask 136 = .ok (.aload_n 0, 1) := by decide +kernel
theorem dX6_ask_137 : decode cX6_ask 137 = .ok (.getfield 37, 3) := by decide +kernel
theorem dX6_ask_140 : decode cX6_ask 140 = .ok (.iload_n 1, 1) := by decide +kernel
theorem dX6_ask_141 : decode cX6_ask 141 = .ok (.iload_n 2, 1) := by decide +kernel
theorem dX6_ask_142 : decode cX6_ask 142 = .ok (.ifCond .ge 7, 3) := by decide +kernel
theorem dX6_ask_145 : decode cX6_ask 145 = .ok (.iconst 5, 1) := by decide +kernel
theorem dX6_ask_146 : decode cX6_ask 146 = .ok (.goto 4, 3) := by decide +kernel
theorem dX6_ask_149 : decode cX6_ask 149 = .ok (.iconst 0, 1) := by decide +kernel
theorem dX6_ask_150 : decode cX6_ask 150 = .ok (.iastore, 1) := by decide +kernel
theorem dX6_ask_151 : decode cX6_ask 151 = .ok (.iload_n 2, 1) := by decide +kernel
theorem dX6_ask_152 : decode cX6_ask 152 = .ok (.ifCond .lt 43, 3) := by decide +kernel
theorem dX6_ask_155 : decode cX6_ask 155 = .ok (.aload_n 0, 1) := by decide +kernel
theorem dX6_ask_156 : decode cX6_ask 156 = .ok (.getfield 46, 3) := by decide +kernel
theorem dX6_ask_159 : decode cX6_ask 159 = .ok (.iload_n 1, 1) := by decide +kernel
theorem dX6_ask_160 : decode cX6_ask 160 = .ok (.dup2, 1) := by decide +kernel
theorem dX6_ask_161 : decode cX6_ask 161 = .ok (.iaload, 1) := by decide +kernel
theorem dX6_ask_162 : decode cX6_ask 162 = .ok (.iconst 1, 1) := by decide +kernel
theorem dX6_ask_163 : decode cX6_ask 163 = .ok (.aload_n 0, 1) := by decide +kernel
theorem dX6_ask_164 : decode cX6_ask 164 = .ok (.getfield 7, 3) := by decide +kernel
theorem dX6_ask_167 : decode cX6_ask 167 = .ok (.iload_n 2, 1) := by decide +kernel
theorem dX6_ask_168 : decode cX6_ask 168 = .ok (.iaload, 1) := by decide +kernel
theorem dX6_ask_169 : decode cX6_ask 169 = .ok (.ishl, 1) := by decide +kernel
theorem dX6_ask_170 : decode cX6_ask 170 = .ok (.ior, 1) := by decide +kernel
theorem dX6_ask_171 : decode cX6_ask 171 = .ok (.iastore, 1) := by decide +kernel
theorem dX6_ask_172 : decode cX6_ask 172 = .ok (.aload_n 0, 1) := by decide +kernel
theorem dX6_ask_173 : decode cX6_ask 173 = .ok (.iconst 2, 1) := by decide +kernel
theorem dX6_ask_174 : decode cX6_ask 174 = .ok (.iload_n 1, 1) := by decide +kernel
theorem dX6_ask_175 : decode cX6_ask 175 = .ok (.aload_n 0, 1) := by decide +kernel
theorem dX6_ask_176 : decode cX6_ask 176 = .ok (.aload_n 0, 1) := by decide +kernel
theorem dX6_ask_177 : decode cX6_ask 177 = .ok (.getfield 7, 3) := by decide +kernel
theorem dX6_ask_180 : decode cX6_ask 180 = .ok (.iload_n 2, 1) := by decide +kernel
theorem dX6_ask_181 : decode cX6_ask 181 = .ok (.iaload, 1) := by decide +kernel
theorem dX6_ask_182 : decode cX6_ask 182 = .ok (.aload_n 0, 1) := by decide +kernel
theorem dX6_ask_183 : decode cX6_ask 183 = .ok (.getfield 31, 3) := by decide +kernel
theorem dX6_ask_186 : decode cX6_ask 186 = .ok (.iload_n 1, 1) := by decide +kernel
theorem dX6_ask_187 : decode cX6_ask 187 = .ok (.iaload, 1) := by decide +kernel
theorem dX6_ask_188 : decode cX6_ask 188 = .ok (.invokevirtual 116, 3) := by decide +kernel
theorem dX6_ask_191 : decode cX6_ask 191 = .ok (.invokevirtual 87, 3) := by decide +kernel
theorem dX6_ask_194 : decode cX6_ask 194 = .ok (.pop, 1) := by decide +kernel
theorem dX6_ask_195 : decode cX6_ask 195 = .ok (.return_, 1) := by decide +kernel
set_option maxRecDepth 20000 in
theorem ggX6_request_X6_isHouse : GoodIn wsX6_request wsX6_isHouse := goodIn_r _ [8, 9, 10, 11, 7, 12] (by decide +kernel) (by decide +kernel)
set_option maxRecDepth 20000 in
theorem gX6_request_X6_isHouse : GoodIn wsX6_request (wsV RX6 91 RX6 yX6_isHouse wsX6_isHouse) := goodIn_app (goodIn_of _ (by decide +kernel)) ggX6_request_X6_isHouse
set_option maxRecDepth 20000 in
theorem ggX6_request_X6_between : GoodIn wsX6_request wsX6_between := goodIn_r _ [12] (by decide +kernel) (by decide +kernel)
set_option maxRecDepth 20000 in
theorem gX6_request_X6_between : GoodIn wsX6_request (wsV RX6 71 RX6 yX6_between wsX6_between) := goodIn_app (goodIn_of _ (by decide +kernel)) ggX6_request_X6_between
set_option maxRecDepth 20000 in
theorem ggX6_request_X6_holds : GoodIn wsX6_request wsX6_holds := goodIn_r _ [16, 17, 42, 43, 44, 45, 46, 47, 48, 49, 50, 51, 52, 53, 54, 55, 56, 57, 58, 59, 60, 61, 62, 63, 64, 65] (by decide +kernel) (by decide +kernel)
set_option maxRecDepth 20000 in
theorem gX6_request_X6_holds : GoodIn wsX6_request (wsV RX6 95 RX6 yX6_holds wsX6_holds) := goodIn_app (goodIn_of _ (by decide +kernel)) ggX6_request_X6_holds
set_option maxRecDepth 20000 in
theorem ggX6_request_X6_ask : GoodIn wsX6_request wsX6_ask := goodIn_r _ [21, 22, 23, 3, 24, 25, 2, 26, 27, 28, 29, 30, 31, 7, 32, 33, 34, 35, 36, 37, 38, 39, 40, 41, 42, 43, 44, 45, 46, 47, 48, 49, 50, 51, 52, 53, 54, 55, 56, 57, 58, 59, 60, 61, 62, 63, 64, 65] (by decide +kernel) (by decide +kernel)
set_option maxRecDepth 20000 in
theorem gX6_request_X6_ask : GoodIn wsX6_request (wsV RX6 120 RX6 yX6_ask wsX6_ask) := goodIn_app (goodIn_of _ (by decide +kernel)) ggX6_request_X6_ask
theorem dX6_request_0 : decode cX6_request 0 = .ok (.aload_n 0, 1) := by decide +kernel
theorem dX6_request_1 : decode cX6_request 1 = .ok (.aload_n 0, 1) := by decide +kernel
theorem dX6_request_2 : decode cX6_request 2 = .ok (.iload_n 1, 1) := by decide +kernel
theorem dX6_request_3 : decode cX6_request 3 = .ok (.invokevirtual 91, 3) := by decide +kernel
theorem dX6_request_6 : decode cX6_request 6 = .ok (.ifCond .eq 14, 3) := by decide +kernel
theorem dX6_request_9 : decode cX6_request 9 = .ok (.aload_n 0, 1) := by decide +kernel
theorem dX6_request_10 : decode cX6_request 10 = .ok (.iload_n 2, 1) := by decide +kernel
theorem dX6_request_11 : decode cX6_request 11 = .ok (.iconst 0, 1) := by decide +kernel
theorem dX6_request_12 : decode cX6_request 12 = .ok (.bipush 7, 2) := by decide +kernel
theorem dX6_request_14 : decode cX6_request 14 = .ok (.invokevirtual 71, 3) := by decide +kernel
theorem dX6_request_17 : decode cX6_request 17 = .ok (.ifCond .ne 7, 3) := by decide +kernel
theorem dX6_request_20 : decode cX6_request 20 = .ok (.iconst 1, 1) := by decide +kernel
theorem dX6_request_21 : decode cX6_request 21 = .ok (.goto 17, 3) := by decide +kernel
theorem dX6_request_24 : decode cX6_request 24 = .ok (.aload_n 0, 1) := by decide +kernel
theorem dX6_request_25 : decode cX6_request 25 = .ok (.getfield 78, 3) := by decide +kernel
theorem dX6_request_28 : decode cX6_request 28 = .ok (.bipush 40, 2) := by decide +kernel
theorem dX6_request_30 : decode cX6_request 30 = .ok (.if_icmp .ne 7, 3) := by decide +kernel
theorem dX6_request_33 : decode cX6_request 33 = .ok (.iconst 2, 1) := by decide +kernel
theorem dX6_request_34 : decode cX6_request 34 = .ok (.goto 4, 3) := by decide +kernel
theorem dX6_request_37 : decode cX6_request 37 = .ok (.iconst 0, 1) := by decide +kernel
theorem dX6_request_38 : decode cX6_request 38 = .ok (.invokevirtual 95, 3) := by decide +kernel
theorem dX6_request_41 : decode cX6_request 41 = .ok (.ifCond .eq 5, 3) := by decide +kernel
theorem dX6_request_44 : decode cX6_request 44 = .ok (.iconst (-1), 1) := by decide +kernel
theorem dX6_request_45 : decode cX6_request 45 = .ok (.ireturn, 1) := by decide +kernel
theorem dX6_request_46 : decode cX6_request 46 = .ok (.aload_n 0, 1) := by decide +kernel
theorem dX6_request_47 : decode cX6_request 47 = .ok (.getfield 31, 3) := by decide +kernel
theorem dX6_request_50 : decode cX6_request 50 = .ok (.aload_n 0, 1) := by decide +kernel
theorem dX6_request_51 : decode cX6_request 51 = .ok (.getfield 78, 3) := by decide +kernel
theorem dX6_request_54 : decode cX6_request 54 = .ok (.iload_n 1, 1) := by decide +kernel
theorem dX6_request_55 : decode cX6_request 55 = .ok (.iastore, 1) := by decide +kernel
theorem dX6_request_56 : decode cX6_request 56 = .ok (.aload_n 0, 1) := by decide +kernel
theorem dX6_request_57 : decode cX6_request 57 = .ok (.getfield 34, 3) := by decide +kernel
theorem dX6_request_60 : decode cX6_request 60 = .ok (.aload_n 0, 1) := by decide +kernel
theorem dX6_request_61 : decode cX6_request 61 = .ok (.getfield 78, 3) := by decide +kernel
theorem dX6_request_64 : decode cX6_request 64 = .ok (.iload_n 2, 1) := by decide +kernel
theorem dX6_request_65 : decode cX6_request 65 = .ok (.iastore, 1) := by decide +kernel
theorem dX6_request_66 : decode cX6_request 66 = .ok (.aload_n 0, 1) := by decide +kernel
theorem dX6_request_67 : decode cX6_request 67 = .ok (.dup, 1) := by decide +kernel
theorem dX6_request_68 : decode cX6_request 68 = .ok (.getfield 78, 3) := by decide +kernel
theorem dX6_request_71 : decode cX6_request 71 = .ok (.iconst 1, 1) := by decide +kernel
theorem dX6_request_72 : decode cX6_request 72 = .ok (.iadd, 1) := by decide +kernel
theorem dX6_request_73 : decode cX6_request 73 = .ok (.putfield 78, 3) := by decide +kernel
theorem dX6_request_76 : decode cX6_request 76 = .ok (.aload_n 0, 1) := by decide +kernel
theorem dX6_request_77 : decode cX6_request 77 = .ok (.aload_n 0, 1) := by decide +kernel
theorem dX6_request_78 : decode cX6_request 78 = .ok (.getfield 78, 3) := by decide +kernel
theorem dX6_request_81 : decode cX6_request 81 = .ok (.iconst 1, 1) := by decide +kernel
theorem dX6_request_82 : decode cX6_request 82 = .ok (.isub, 1) := by decide +kernel
theorem dX6_request_83 : decode cX6_request 83 = .ok (.invokevirtual 120, 3) := by decide +kernel
theorem dX6_request_86 : decode cX6_request 86 = .ok (.aload_n 0, 1) := by decide +kernel
theorem dX6_request_87 : decode cX6_request 87 = .ok (.getfield 78, 3) := by decide +kernel
theorem dX6_request_90 : decode cX6_request 90 = .ok (.iconst 1, 1) := by decide +kernel
theorem dX6_request_91 : decode cX6_request 91 = .ok (.isub, 1) := by decide +kernel
theorem dX6_request_92 : decode cX6_request 92 = .ok (.ireturn, 1) := by decide +kernel
set_option maxRecDepth 20000 in
theorem ggX6_state_X6_isRequest : GoodIn wsX6_state wsX6_isRequest := goodIn_r _ [6, 7, 8, 9, 10, 5, 11, 17, 18, 19, 20, 21, 22, 23, 24, 25, 26, 27, 28, 29, 30, 31, 32, 33, 34, 35, 36, 37, 38, 39, 40] (by decide +kernel) (by decide +kernel)
set_option maxRecDepth 20000 in
theorem gX6_state_X6_isRequest : GoodIn wsX6_state (wsV RX6 124 RX6 yX6_isRequest wsX6_isRequest) := goodIn_app (goodIn_of _ (by decide +kernel)) ggX6_state_X6_isRequest
set_option maxRecDepth 20000 in
theorem ggX6_state_X6_holds : GoodIn wsX6_state wsX6_holds := goodIn_r _ [15, 16, 17, 18, 19, 20, 21, 22, 23, 24, 25, 26, 27, 28, 29, 30, 31, 32, 33, 34, 35, 36, 37, 38, 39, 40] (by decide +kernel) (by decide +kernel)
set_option maxRecDepth 20000 in
theorem gX6_state_X6_holds : GoodIn wsX6_state (wsV RX6 95 RX6 yX6_holds wsX6_holds) := goodIn_app (goodIn_of _ (by decide +kernel)) ggX6_state_X6_holds
theorem dX6_state_0 : decode cX6_state 0 = .ok (.aload_n 0, 1) := by decide +kernel
theorem dX6_state_1 : decode cX6_state 1 = .ok (.aload_n 0, 1) := by decide +kernel
theorem dX6_state_2 : decode cX6_state 2 = .ok (.iload_n 1, 1) := by decide +kernel
theorem dX6_state_3 : decode cX6_state 3 = .ok (.invokevirtual 124, 3) := by decide +kernel
theorem dX6_state_6 : decode cX6_state 6 = .ok (.ifCond .eq 7, 3) := by decide +kernel
theorem dX6_state_9 : decode cX6_state 9 = .ok (.iconst 0, 1) := by decide +kernel
theorem dX6_state_10 : decode cX6_state 10 = .ok (.goto 4, 3) := by decide +kernel
theorem dX6_state_13 : decode cX6_state 13 = .ok (.iconst 1, 1) := by decide +kernel
theorem dX6_state_14 : decode cX6_state 14 = .ok (.invokevirtual 95, 3) := by decide +kernel
theorem dX6_state_17 : decode cX6_state 17 = .ok (.ifCond .eq 7, 3) := by decide +kernel
theorem dX6_state_20 : decode cX6_state 20 = .ok (.iconst (-1), 1) := by decide +kernel
theorem dX6_state_21 : decode cX6_state 21 = .ok (.goto 9, 3) := by decide +kernel
theorem dX6_state_24 : decode cX6_state 24 = .ok (.aload_n 0, 1) := by decide +kernel
theorem dX6_state_25 : decode cX6_state 25 = .ok (.getfield 37, 3) := by decide +kernel
theorem dX6_state_28 : decode cX6_state 28 = .ok (.iload_n 1, 1) := by decide +kernel
theorem dX6_state_29 : decode cX6_state 29 = .ok (.iaload, 1) := by decide +kernel
theorem dX6_state_30 : decode cX6_state 30 = .ok (.ireturn, 1) := by decide +kernel
set_option maxRecDepth 20000 in
theorem ggX6_copyOf_X6_isRequest : GoodIn wsX6_copyOf wsX6_isRequest := goodIn_r _ [6, 7, 8, 9, 10, 5, 11, 17, 18, 19, 20, 21, 22, 23, 24, 25, 26, 27, 28, 29, 30, 31, 32, 33, 34, 35, 36, 37, 38, 39, 40] (by decide +kernel) (by decide +kernel)
set_option maxRecDepth 20000 in
theorem gX6_copyOf_X6_isRequest : GoodIn wsX6_copyOf (wsV RX6 124 RX6 yX6_isRequest wsX6_isRequest) := goodIn_app (goodIn_of _ (by decide +kernel)) ggX6_copyOf_X6_isRequest
set_option maxRecDepth 20000 in
theorem ggX6_copyOf_X6_holds : GoodIn wsX6_copyOf wsX6_holds := goodIn_r _ [15, 16, 17, 18, 19, 20, 21, 22, 23, 24, 25, 26, 27, 28, 29, 30, 31, 32, 33, 34, 35, 36, 37, 38, 39, 40] (by decide +kernel) (by decide +kernel)
set_option maxRecDepth 20000 in
theorem gX6_copyOf_X6_holds : GoodIn wsX6_copyOf (wsV RX6 95 RX6 yX6_holds wsX6_holds) := goodIn_app (goodIn_of _ (by decide +kernel)) ggX6_copyOf_X6_holds
theorem dX6_copyOf_0 : decode cX6_copyOf 0 = .ok (.aload_n 0, 1) := by decide +kernel
theorem dX6_copyOf_1 : decode cX6_copyOf 1 = .ok (.aload_n 0, 1) := by decide +kernel
theorem dX6_copyOf_2 : decode cX6_copyOf 2 = .ok (.iload_n 1, 1) := by decide +kernel
theorem dX6_copyOf_3 : decode cX6_copyOf 3 = .ok (.invokevirtual 124, 3) := by decide +kernel
theorem dX6_copyOf_6 : decode cX6_copyOf 6 = .ok (.ifCond .eq 7, 3) := by decide +kernel
theorem dX6_copyOf_9 : decode cX6_copyOf 9 = .ok (.iconst 0, 1) := by decide +kernel
theorem dX6_copyOf_10 : decode cX6_copyOf 10 = .ok (.goto 4, 3) := by decide +kernel
theorem dX6_copyOf_13 : decode cX6_copyOf 13 = .ok (.iconst 1, 1) := by decide +kernel
theorem dX6_copyOf_14 : decode cX6_copyOf 14 = .ok (.invokevirtual 95, 3) := by decide +kernel
theorem dX6_copyOf_17 : decode cX6_copyOf 17 = .ok (.ifCond .eq 7, 3) := by decide +kernel
theorem dX6_copyOf_20 : decode cX6_copyOf 20 = .ok (.iconst (-1), 1) := by decide +kernel
theorem dX6_copyOf_21 : decode cX6_copyOf 21 = .ok (.goto 9, 3) := by decide +kernel
theorem dX6_copyOf_24 : decode cX6_copyOf 24 = .ok (.aload_n 0, 1) := by decide +kernel
theorem dX6_copyOf_25 : decode cX6_copyOf 25 = .ok (.getfield 40, 3) := by decide +kernel
theorem dX6_copyOf_28 : decode cX6_copyOf 28 = .ok (.iload_n 1, 1) := by decide +kernel
theorem dX6_copyOf_29 : decode cX6_copyOf 29 = .ok (.iaload, 1) := by decide +kernel
theorem dX6_copyOf_30 : decode cX6_copyOf 30 = .ok (.ireturn, 1) := by decide +kernel
set_option maxRecDepth 20000 in
theorem ggX6_refuses_X6_isRequest : GoodIn wsX6_refuses wsX6_isRequest := goodIn_r _ [6, 7, 8, 9, 10, 5, 11, 12, 13, 14, 15, 16, 17, 18, 19, 20, 21, 22, 23, 24, 25, 26, 27, 28, 29, 30, 31, 32, 33, 34, 35] (by decide +kernel) (by decide +kernel)
set_option maxRecDepth 20000 in
theorem gX6_refuses_X6_isRequest : GoodIn wsX6_refuses (wsV RX6 124 RX6 yX6_isRequest wsX6_isRequest) := goodIn_app (goodIn_of _ (by decide +kernel)) ggX6_refuses_X6_isRequest
theorem dX6_refuses_0 : decode cX6_refuses 0 = .ok (.aload_n 0, 1) := by decide +kernel
theorem dX6_refuses_1 : decode cX6_refuses 1 = .ok (.iload_n 1, 1) := by decide +kernel
theorem dX6_refuses_2 : decode cX6_refuses 2 = .ok (.invokevirtual 124, 3) := by decide +kernel
theorem dX6_refuses_5 : decode cX6_refuses 5 = .ok (.ifCond .ne 7, 3) := by decide +kernel
theorem dX6_refuses_8 : decode cX6_refuses 8 = .ok (.iconst 1, 1) := by decide +kernel
theorem dX6_refuses_9 : decode cX6_refuses 9 = .ok (.goto 18, 3) := by decide +kernel
theorem dX6_refuses_12 : decode cX6_refuses 12 = .ok (.aload_n 0, 1) := by decide +kernel
theorem dX6_refuses_13 : decode cX6_refuses 13 = .ok (.getfield 37, 3) := by decide +kernel
theorem dX6_refuses_16 : decode cX6_refuses 16 = .ok (.iload_n 1, 1) := by decide +kernel
theorem dX6_refuses_17 : decode cX6_refuses 17 = .ok (.iaload, 1) := by decide +kernel
theorem dX6_refuses_18 : decode cX6_refuses 18 = .ok (.iconst 2, 1) := by decide +kernel
theorem dX6_refuses_19 : decode cX6_refuses 19 = .ok (.if_icmp .ne 7, 3) := by decide +kernel
theorem dX6_refuses_22 : decode cX6_refuses 22 = .ok (.iconst 0, 1) := by decide +kernel
theorem dX6_refuses_23 : decode cX6_refuses 23 = .ok (.goto 4, 3) := by decide +kernel
theorem dX6_refuses_26 : decode cX6_refuses 26 = .ok (.iconst 2, 1) := by decide +kernel
theorem dX6_refuses_27 : decode cX6_refuses 27 = .ok (.ireturn, 1) := by decide +kernel
set_option maxRecDepth 20000 in
theorem ggX6_due_X6_refuses : GoodIn wsX6_due wsX6_refuses := goodIn_r _ [6, 7, 8, 9, 10, 5, 11, 12, 13, 14, 15, 16, 22, 23, 24, 25, 26, 27, 28, 29, 30, 31, 32, 33, 34, 35, 36, 37, 38, 39, 40, 41, 42, 43, 44, 45] (by decide +kernel) (by decide +kernel)
set_option maxRecDepth 20000 in
theorem gX6_due_X6_refuses : GoodIn wsX6_due (wsV RX6 127 RX6 yX6_refuses wsX6_refuses) := goodIn_app (goodIn_of _ (by decide +kernel)) ggX6_due_X6_refuses
set_option maxRecDepth 20000 in
theorem ggX6_due_X6_holds : GoodIn wsX6_due wsX6_holds := goodIn_r _ [20, 21, 22, 23, 24, 25, 26, 27, 28, 29, 30, 31, 32, 33, 34, 35, 36, 37, 38, 39, 40, 41, 42, 43, 44, 45] (by decide +kernel) (by decide +kernel)
set_option maxRecDepth 20000 in
theorem gX6_due_X6_holds : GoodIn wsX6_due (wsV RX6 95 RX6 yX6_holds wsX6_holds) := goodIn_app (goodIn_of _ (by decide +kernel)) ggX6_due_X6_holds
theorem dX6_due_0 : decode cX6_due 0 = .ok (.aload_n 0, 1) := by decide +kernel
theorem dX6_due_1 : decode cX6_due 1 = .ok (.aload_n 0, 1) := by decide +kernel
theorem dX6_due_2 : decode cX6_due 2 = .ok (.iload_n 1, 1) := by decide +kernel
theorem dX6_due_3 : decode cX6_due 3 = .ok (.invokevirtual 127, 3) := by decide +kernel
theorem dX6_due_6 : decode cX6_due 6 = .ok (.invokevirtual 95, 3) := by decide +kernel
theorem dX6_due_9 : decode cX6_due 9 = .ok (.ifCond .eq 7, 3) := by decide +kernel
theorem dX6_due_12 : decode cX6_due 12 = .ok (.iconst (-1), 1) := by decide +kernel
theorem dX6_due_13 : decode cX6_due 13 = .ok (.goto 9, 3) := by decide +kernel
theorem dX6_due_16 : decode cX6_due 16 = .ok (.aload_n 0, 1) := by decide +kernel
theorem dX6_due_17 : decode cX6_due 17 = .ok (.getfield 43, 3) := by decide +kernel
theorem dX6_due_20 : decode cX6_due 20 = .ok (.iload_n 1, 1) := by decide +kernel
theorem dX6_due_21 : decode cX6_due 21 = .ok (.iaload, 1) := by decide +kernel
theorem dX6_due_22 : decode cX6_due 22 = .ok (.ireturn, 1) := by decide +kernel
set_option maxRecDepth 20000 in
theorem ggX6_length_X6_way : GoodIn wsX6_length wsX6_way := goodIn_r _ [8] (by decide +kernel) (by decide +kernel)
set_option maxRecDepth 20000 in
theorem gX6_length_X6_way : GoodIn wsX6_length (wsV RX6 116 RX6 yX6_way wsX6_way) := goodIn_app (goodIn_of _ (by decide +kernel)) ggX6_length_X6_way
theorem dX6_length_0 : decode cX6_length 0 = .ok (.aload_n 0, 1) := by decide +kernel
theorem dX6_length_1 : decode cX6_length 1 = .ok (.aload_n 0, 1) := by decide +kernel
theorem dX6_length_2 : decode cX6_length 2 = .ok (.getfield 31, 3) := by decide +kernel
theorem dX6_length_5 : decode cX6_length 5 = .ok (.iload_n 1, 1) := by decide +kernel
theorem dX6_length_6 : decode cX6_length 6 = .ok (.iaload, 1) := by decide +kernel
theorem dX6_length_7 : decode cX6_length 7 = .ok (.aload_n 0, 1) := by decide +kernel
theorem dX6_length_8 : decode cX6_length 8 = .ok (.getfield 7, 3) := by decide +kernel
theorem dX6_length_11 : decode cX6_length 11 = .ok (.aload_n 0, 1) := by decide +kernel
theorem dX6_length_12 : decode cX6_length 12 = .ok (.getfield 40, 3) := by decide +kernel
theorem dX6_length_15 : decode cX6_length 15 = .ok (.iload_n 1, 1) := by decide +kernel
theorem dX6_length_16 : decode cX6_length 16 = .ok (.iaload, 1) := by decide +kernel
theorem dX6_length_17 : decode cX6_length 17 = .ok (.iaload, 1) := by decide +kernel
theorem dX6_length_18 : decode cX6_length 18 = .ok (.invokevirtual 116, 3) := by decide +kernel
theorem dX6_length_21 : decode cX6_length 21 = .ok (.ireturn, 1) := by decide +kernel
set_option maxRecDepth 20000 in
theorem ggX6_renew_X6_refuses : GoodIn wsX6_renew wsX6_refuses := goodIn_r _ [5, 6, 7, 8, 9, 4, 10, 11, 12, 13, 14, 15, 41, 42, 43, 44, 45, 46, 47, 48, 49, 50, 51, 52, 53, 54, 55, 56, 57, 58, 59, 60, 61, 62, 63, 64] (by decide +kernel) (by decide +kernel)
set_option maxRecDepth 20000 in
theorem gX6_renew_X6_refuses : GoodIn wsX6_renew (wsV RX6 127 RX6 yX6_refuses wsX6_refuses) := goodIn_app (goodIn_of _ (by decide +kernel)) ggX6_renew_X6_refuses
set_option maxRecDepth 20000 in
theorem ggX6_renew_X6_holds : GoodIn wsX6_renew wsX6_holds := goodIn_r _ [19, 20, 41, 42, 43, 44, 45, 46, 47, 48, 49, 50, 51, 52, 53, 54, 55, 56, 57, 58, 59, 60, 61, 62, 63, 64] (by decide +kernel) (by decide +kernel)
set_option maxRecDepth 20000 in
theorem gX6_renew_X6_holds : GoodIn wsX6_renew (wsV RX6 95 RX6 yX6_holds wsX6_holds) := goodIn_app (goodIn_of _ (by decide +kernel)) ggX6_renew_X6_holds
set_option maxRecDepth 20000 in
theorem ggX6_renew_X6_length : GoodIn wsX6_renew wsX6_length := goodIn_r _ [24, 25, 26, 27, 28, 29, 30, 4, 31, 41, 42, 43, 44, 45, 46, 47, 48, 49, 50, 51, 52, 53, 54, 55, 56, 57, 58, 59, 60, 61, 62, 63, 64] (by decide +kernel) (by decide +kernel)
set_option maxRecDepth 20000 in
theorem gX6_renew_X6_length : GoodIn wsX6_renew (wsV RX6 130 RX6 yX6_length wsX6_length) := goodIn_app (goodIn_of _ (by decide +kernel)) ggX6_renew_X6_length
set_option maxRecDepth 20000 in
theorem ggX6_renew_X6_send : GoodIn wsX6_renew wsX6_send := goodIn_r _ [35, 36, 37, 38, 39, 40, 41, 42, 43, 44, 45, 46, 47, 48, 49, 50, 51, 52, 53, 54, 55, 56, 57, 58, 59, 60, 61, 62, 63, 64] (by decide +kernel) (by decide +kernel)
set_option maxRecDepth 20000 in
theorem gX6_renew_X6_send : GoodIn wsX6_renew (wsV RX6 87 RX6 yX6_send wsX6_send) := goodIn_app (goodIn_of _ (by decide +kernel)) ggX6_renew_X6_send
theorem dX6_renew_0 : decode cX6_renew 0 = .ok (.aload_n 0, 1) := by decide +kernel
theorem dX6_renew_1 : decode cX6_renew 1 = .ok (.aload_n 0, 1) := by decide +kernel
theorem dX6_renew_2 : decode cX6_renew 2 = .ok (.iload_n 1, 1) := by decide +kernel
theorem dX6_renew_3 : decode cX6_renew 3 = .ok (.invokevirtual 127, 3) := by decide +kernel
theorem dX6_renew_6 : decode cX6_renew 6 = .ok (.invokevirtual 95, 3) := by decide +kernel
theorem dX6_renew_9 : decode cX6_renew 9 = .ok (.ifCond .eq 7, 3) := by decide +kernel
theorem dX6_renew_12 : decode cX6_renew 12 = .ok (.iconst (-1), 1) := by decide +kernel
theorem dX6_renew_13 : decode cX6_renew 13 = .ok (.goto 14, 3) := by decide +kernel
theorem dX6_renew_16 : decode cX6_renew 16 = .ok (.aload_n 0, 1) := by decide +kernel
theorem dX6_renew_17 : decode cX6_renew 17 = .ok (.iconst 3, 1) := by decide +kernel
theorem dX6_renew_18 : decode cX6_renew 18 = .ok (.iload_n 1, 1) := by decide +kernel
theorem dX6_renew_19 : decode cX6_renew 19 = .ok (.aload_n 0, 1) := by decide +kernel
theorem dX6_renew_20 : decode cX6_renew 20 = .ok (.iload_n 1, 1) := by decide +kernel
theorem dX6_renew_21 : decode cX6_renew 21 = .ok (.invokevirtual 130, 3) := by decide +kernel
theorem dX6_renew_24 : decode cX6_renew 24 = .ok (.invokevirtual 87, 3) := by decide +kernel
theorem dX6_renew_27 : decode cX6_renew 27 = .ok (.ireturn, 1) := by decide +kernel
set_option maxRecDepth 20000 in
theorem ggX6_recall_X6_refuses : GoodIn wsX6_recall wsX6_refuses := goodIn_r _ [6, 7, 8, 9, 10, 5, 11, 12, 13, 14, 15, 16, 42, 43, 44, 45, 46, 47, 48, 49, 50, 51, 52, 53, 54, 55, 56, 57, 58, 59, 60, 61, 62, 63, 64, 65] (by decide +kernel) (by decide +kernel)
set_option maxRecDepth 20000 in
theorem gX6_recall_X6_refuses : GoodIn wsX6_recall (wsV RX6 127 RX6 yX6_refuses wsX6_refuses) := goodIn_app (goodIn_of _ (by decide +kernel)) ggX6_recall_X6_refuses
set_option maxRecDepth 20000 in
theorem ggX6_recall_X6_holds : GoodIn wsX6_recall wsX6_holds := goodIn_r _ [20, 21, 42, 43, 44, 45, 46, 47, 48, 49, 50, 51, 52, 53, 54, 55, 56, 57, 58, 59, 60, 61, 62, 63, 64, 65] (by decide +kernel) (by decide +kernel)
set_option maxRecDepth 20000 in
theorem gX6_recall_X6_holds : GoodIn wsX6_recall (wsV RX6 95 RX6 yX6_holds wsX6_holds) := goodIn_app (goodIn_of _ (by decide +kernel)) ggX6_recall_X6_holds
set_option maxRecDepth 20000 in
theorem ggX6_recall_X6_length : GoodIn wsX6_recall wsX6_length := goodIn_r _ [25, 26, 27, 28, 29, 30, 31, 5, 32, 42, 43, 44, 45, 46, 47, 48, 49, 50, 51, 52, 53, 54, 55, 56, 57, 58, 59, 60, 61, 62, 63, 64, 65] (by decide +kernel) (by decide +kernel)
set_option maxRecDepth 20000 in
theorem gX6_recall_X6_length : GoodIn wsX6_recall (wsV RX6 130 RX6 yX6_length wsX6_length) := goodIn_app (goodIn_of _ (by decide +kernel)) ggX6_recall_X6_length
set_option maxRecDepth 20000 in
theorem ggX6_recall_X6_send : GoodIn wsX6_recall wsX6_send := goodIn_r _ [36, 37, 38, 39, 40, 41, 42, 43, 44, 45, 46, 47, 48, 49, 50, 51, 52, 53, 54, 55, 56, 57, 58, 59, 60, 61, 62, 63, 64, 65] (by decide +kernel) (by decide +kernel)
set_option maxRecDepth 20000 in
theorem gX6_recall_X6_send : GoodIn wsX6_recall (wsV RX6 87 RX6 yX6_send wsX6_send) := goodIn_app (goodIn_of _ (by decide +kernel)) ggX6_recall_X6_send
theorem dX6_recall_0 : decode cX6_recall 0 = .ok (.aload_n 0, 1) := by decide +kernel
theorem dX6_recall_1 : decode cX6_recall 1 = .ok (.aload_n 0, 1) := by decide +kernel
theorem dX6_recall_2 : decode cX6_recall 2 = .ok (.iload_n 1, 1) := by decide +kernel
theorem dX6_recall_3 : decode cX6_recall 3 = .ok (.invokevirtual 127, 3) := by decide +kernel
theorem dX6_recall_6 : decode cX6_recall 6 = .ok (.ifCond .le 11, 3) := by decide +kernel
theorem dX6_recall_9 : decode cX6_recall 9 = .ok (.aload_n 0, 1) := by decide +kernel
theorem dX6_recall_10 : decode cX6_recall 10 = .ok (.iload_n 1, 1) := by decide +kernel
theorem dX6_recall_11 : decode cX6_recall 11 = .ok (.invokevirtual 127, 3) := by decide +kernel
theorem dX6_recall_14 : decode cX6_recall 14 = .ok (.goto 18, 3) := by decide +kernel
theorem dX6_recall_17 : decode cX6_recall 17 = .ok (.aload_n 0, 1) := by decide +kernel
theorem dX6_recall_18 : decode cX6_recall 18 = .ok (.getfield 49, 3) := by decide +kernel
theorem dX6_recall_21 : decode cX6_recall 21 = .ok (.iload_n 1, 1) := by decide +kernel
theorem dX6_recall_22 : decode cX6_recall 22 = .ok (.iaload, 1) := by decide +kernel
theorem dX6_recall_23 : decode cX6_recall 23 = .ok (.iconst 1, 1) := by decide +kernel
theorem dX6_recall_24 : decode cX6_recall 24 = .ok (.if_icmp .ne 7, 3) := by decide +kernel
theorem dX6_recall_27 : decode cX6_recall 27 = .ok (.iconst 2, 1) := by decide +kernel
theorem dX6_recall_28 : decode cX6_recall 28 = .ok (.goto 4, 3) := by decide +kernel
theorem dX6_recall_31 : decode cX6_recall 31 = .ok (.iconst 0, 1) := by decide +kernel
theorem dX6_recall_32 : decode cX6_recall 32 = .ok (.invokevirtual 95, 3) := by decide +kernel
theorem dX6_recall_35 : decode cX6_recall 35 = .ok (.ifCond .eq 5, 3) := by decide +kernel
theorem dX6_recall_38 : decode cX6_recall 38 = .ok (.iconst (-1), 1) := by decide +kernel
theorem dX6_recall_39 : decode cX6_recall 39 = .ok (.ireturn, 1) := by decide +kernel
theorem dX6_recall_40 : decode cX6_recall 40 = .ok (.aload_n 0, 1) := by decide +kernel
theorem dX6_recall_41 : decode cX6_recall 41 = .ok (.getfield 49, 3) := by decide +kernel
theorem dX6_recall_44 : decode cX6_recall 44 = .ok (.iload_n 1, 1) := by decide +kernel
theorem dX6_recall_45 : decode cX6_recall 45 = .ok (.iconst 1, 1) := by decide +kernel
theorem dX6_recall_46 : decode cX6_recall 46 = .ok (.iastore, 1) := by decide +kernel
theorem dX6_recall_47 : decode cX6_recall 47 = .ok (.aload_n 0, 1) := by decide +kernel
theorem dX6_recall_48 : decode cX6_recall 48 = .ok (.iconst 4, 1) := by decide +kernel
theorem dX6_recall_49 : decode cX6_recall 49 = .ok (.iload_n 1, 1) := by decide +kernel
theorem dX6_recall_50 : decode cX6_recall 50 = .ok (.aload_n 0, 1) := by decide +kernel
theorem dX6_recall_51 : decode cX6_recall 51 = .ok (.iload_n 1, 1) := by decide +kernel
theorem dX6_recall_52 : decode cX6_recall 52 = .ok (.invokevirtual 130, 3) := by decide +kernel
theorem dX6_recall_55 : decode cX6_recall 55 = .ok (.invokevirtual 87, 3) := by decide +kernel
theorem dX6_recall_58 : decode cX6_recall 58 = .ok (.ireturn, 1) := by decide +kernel
set_option maxRecDepth 20000 in
theorem ggX6_sendBack_X6_refuses : GoodIn wsX6_sendBack wsX6_refuses := goodIn_r _ [12, 6, 13, 14, 15, 11, 16, 17, 18, 19, 20, 21, 48, 49, 50, 51, 52, 53, 54, 55, 56, 57, 58, 59, 60, 61, 62, 63, 64, 65, 66, 67, 68, 69, 70, 71] (by decide +kernel) (by decide +kernel)
set_option maxRecDepth 20000 in
theorem gX6_sendBack_X6_refuses : GoodIn wsX6_sendBack (wsV RX6 127 RX6 yX6_refuses wsX6_refuses) := goodIn_app (goodIn_of _ (by decide +kernel)) ggX6_sendBack_X6_refuses
set_option maxRecDepth 20000 in
theorem ggX6_sendBack_X6_holds : GoodIn wsX6_sendBack wsX6_holds := goodIn_r _ [25, 26, 48, 49, 50, 51, 52, 53, 54, 55, 56, 57, 58, 59, 60, 61, 62, 63, 64, 65, 66, 67, 68, 69, 70, 71] (by decide +kernel) (by decide +kernel)
set_option maxRecDepth 20000 in
theorem gX6_sendBack_X6_holds : GoodIn wsX6_sendBack (wsV RX6 95 RX6 yX6_holds wsX6_holds) := goodIn_app (goodIn_of _ (by decide +kernel)) ggX6_sendBack_X6_holds
set_option maxRecDepth 20000 in
theorem ggX6_sendBack_X6_owe : GoodIn wsX6_sendBack wsX6_owe := goodIn_r _ [30, 31, 48, 49, 50, 51, 52, 53, 54, 55, 56, 57, 58, 59, 60, 61, 62, 63, 64, 65, 66, 67, 68, 69, 70, 71] (by decide +kernel) (by decide +kernel)
set_option maxRecDepth 20000 in
theorem gX6_sendBack_X6_owe : GoodIn wsX6_sendBack (wsV RX6 108 RX6 yX6_owe wsX6_owe) := goodIn_app (goodIn_of _ (by decide +kernel)) ggX6_sendBack_X6_owe
set_option maxRecDepth 20000 in
theorem ggX6_sendBack_X6_length : GoodIn wsX6_sendBack wsX6_length := goodIn_r _ [35, 4, 5, 3, 36, 37, 38, 11, 39, 48, 49, 50, 51, 52, 53, 54, 55, 56, 57, 58, 59, 60, 61, 62, 63, 64, 65, 66, 67, 68, 69, 70, 71] (by decide +kernel) (by decide +kernel)
set_option maxRecDepth 20000 in
theorem gX6_sendBack_X6_length : GoodIn wsX6_sendBack (wsV RX6 130 RX6 yX6_length wsX6_length) := goodIn_app (goodIn_of _ (by decide +kernel)) ggX6_sendBack_X6_length
set_option maxRecDepth 20000 in
theorem ggX6_sendBack_X6_send : GoodIn wsX6_sendBack wsX6_send := goodIn_r _ [43, 44, 45, 46, 47, 1, 48, 49, 50, 51, 52, 53, 54, 55, 56, 57, 58, 59, 60, 61, 62, 63, 64, 65, 66, 67, 68, 69, 70, 71] (by decide +kernel) (by decide +kernel)
set_option maxRecDepth 20000 in
theorem gX6_sendBack_X6_send : GoodIn wsX6_sendBack (wsV RX6 87 RX6 yX6_send wsX6_send) := goodIn_app (goodIn_of _ (by decide +kernel)) ggX6_sendBack_X6_send
theorem dX6_sendBack_0 : decode cX6_sendBack 0 = .ok (.aload_n 0, 1) := by decide +kernel
theorem dX6_sendBack_1 : decode cX6_sendBack 1 = .ok (.aload_n 0, 1) := by decide +kernel
theorem dX6_sendBack_2 : decode cX6_sendBack 2 = .ok (.iload_n 1, 1) := by decide +kernel
theorem dX6_sendBack_3 : decode cX6_sendBack 3 = .ok (.invokevirtual 127, 3) := by decide +kernel
theorem dX6_sendBack_6 : decode cX6_sendBack 6 = .ok (.invokevirtual 95, 3) := by decide +kernel
theorem dX6_sendBack_9 : decode cX6_sendBack 9 = .ok (.ifCond .eq 5, 3) := by decide +kernel
theorem dX6_sendBack_12 : decode cX6_sendBack 12 = .ok (.iconst (-1), 1) := by decide +kernel
theorem dX6_sendBack_13 : decode cX6_sendBack 13 = .ok (.ireturn, 1) := by decide +kernel
theorem dX6_sendBack_14 : decode cX6_sendBack 14 = .ok (.aload_n 0, 1) := by decide +kernel
theorem dX6_sendBack_15 : decode cX6_sendBack 15 = .ok (.getfield 84, 3) := by decide +kernel
theorem dX6_sendBack_18 : decode cX6_sendBack 18 = .ok (.aload_n 0, 1) := by decide +kernel
theorem dX6_sendBack_19 : decode cX6_sendBack 19 = .ok (.getfield 43, 3) := by decide +kernel
theorem dX6_sendBack_22 : decode cX6_sendBack 22 = .ok (.iload_n 1, 1) := by decide +kernel
theorem dX6_sendBack_23 : decode cX6_sendBack 23 = .ok (.iaload, 1) := by decide +kernel
theorem dX6_sendBack_24 : decode cX6_sendBack 24 = .ok (.if_icmp .le 17, 3) := by decide +kernel
theorem dX6_sendBack_27 : decode cX6_sendBack 27 = .ok (.aload_n 0, 1) := by decide +kernel
theorem dX6_sendBack_28 : decode cX6_sendBack 28 = .ok (.getfield 84, 3) := by decide +kernel
theorem dX6_sendBack_31 : decode cX6_sendBack 31 = .ok (.aload_n 0, 1) := by decide +kernel
theorem dX6_sendBack_32 : decode cX6_sendBack 32 = .ok (.getfield 43, 3) := by decide +kernel
theorem dX6_sendBack_35 : decode cX6_sendBack 35 = .ok (.iload_n 1, 1) := by decide +kernel
theorem dX6_sendBack_36 : decode cX6_sendBack 36 = .ok (.iaload, 1) := by decide +kernel
theorem dX6_sendBack_37 : decode cX6_sendBack 37 = .ok (.isub, 1) := by decide +kernel
theorem dX6_sendBack_38 : decode cX6_sendBack 38 = .ok (.goto 4, 3) := by decide +kernel
theorem dX6_sendBack_41 : decode cX6_sendBack 41 = .ok (.iconst 0, 1) := by decide +kernel
theorem dX6_sendBack_42 : decode cX6_sendBack 42 = .ok (.istore_n 2, 1) := by decide +kernel
theorem dX6_sendBack_43 : decode cX6_sendBack 43 = .ok (.aload_n 0, 1) := by decide +kernel
theorem dX6_sendBack_44 : decode cX6_sendBack 44 = .ok (.getfield 40, 3) := by decide +kernel
theorem dX6_sendBack_47 : decode cX6_sendBack 47 = .ok (.iload_n 1, 1) := by decide +kernel
theorem dX6_sendBack_48 : decode cX6_sendBack 48 = .ok (.iaload, 1) := by decide +kernel
theorem dX6_sendBack_49 : decode cX6_sendBack 49 = .ok (.istore_n 3, 1) := by decide +kernel
theorem dX6_sendBack_50 : decode cX6_sendBack 50 = .ok (.aload_n 0, 1) := by decide +kernel
theorem dX6_sendBack_51 : decode cX6_sendBack 51 = .ok (.aload_n 0, 1) := by decide +kernel
theorem dX6_sendBack_52 : decode cX6_sendBack 52 = .ok (.getfield 31, 3) := by decide +kernel
theorem dX6_sendBack_55 : decode cX6_sendBack 55 = .ok (.iload_n 1, 1) := by decide +kernel
theorem dX6_sendBack_56 : decode cX6_sendBack 56 = .ok (.iaload, 1) := by decide +kernel
theorem dX6_sendBack_57 : decode cX6_sendBack 57 = .ok (.aload_n 0, 1) := by decide +kernel
theorem dX6_sendBack_58 : decode cX6_sendBack 58 = .ok (.getfield 7, 3) := by decide +kernel
theorem dX6_sendBack_61 : decode cX6_sendBack 61 = .ok (.iload_n 3, 1) := by decide +kernel
theorem dX6_sendBack_62 : decode cX6_sendBack 62 = .ok (.iaload, 1) := by decide +kernel
theorem dX6_sendBack_63 : decode cX6_sendBack 63 = .ok (.iload_n 2, 1) := by decide +kernel
theorem dX6_sendBack_64 : decode cX6_sendBack 64 = .ok (.invokevirtual 108, 3) := by decide +kernel
theorem dX6_sendBack_67 : decode cX6_sendBack 67 = .ok (.aload_n 0, 1) := by decide +kernel
theorem dX6_sendBack_68 : decode cX6_sendBack 68 = .ok (.getfield 37, 3) := by decide +kernel
theorem dX6_sendBack_71 : decode cX6_sendBack 71 = .ok (.iload_n 1, 1) := by decide +kernel
theorem dX6_sendBack_72 : decode cX6_sendBack 72 = .ok (.iconst 3, 1) := by decide +kernel
theorem dX6_sendBack_73 : decode cX6_sendBack 73 = .ok (.iastore, 1) := by decide +kernel
theorem dX6_sendBack_74 : decode cX6_sendBack 74 = .ok (.aload_n 0, 1) := by decide +kernel
theorem dX6_sendBack_75 : decode cX6_sendBack 75 = .ok (.getfield 16, 3) := by decide +kernel
theorem dX6_sendBack_78 : decode cX6_sendBack 78 = .ok (.iload_n 3, 1) := by decide +kernel
theorem dX6_sendBack_79 : decode cX6_sendBack 79 = .ok (.iconst (-1), 1) := by decide +kernel
theorem dX6_sendBack_80 : decode cX6_sendBack 80 = .ok (.iastore, 1) := by decide +kernel
theorem dX6_sendBack_81 : decode cX6_sendBack 81 = .ok (.aload_n 0, 1) := by decide +kernel
theorem dX6_sendBack_82 : decode cX6_sendBack 82 = .ok (.iconst 5, 1) := by decide +kernel
theorem dX6_sendBack_83 : decode cX6_sendBack 83 = .ok (.iload_n 1, 1) := by decide +kernel
theorem dX6_sendBack_84 : decode cX6_sendBack 84 = .ok (.aload_n 0, 1) := by decide +kernel
theorem dX6_sendBack_85 : decode cX6_sendBack 85 = .ok (.iload_n 1, 1) := by decide +kernel
theorem dX6_sendBack_86 : decode cX6_sendBack 86 = .ok (.invokevirtual 130, 3) := by decide +kernel
theorem dX6_sendBack_89 : decode cX6_sendBack 89 = .ok (.invokevirtual 87, 3) := by decide +kernel
theorem dX6_sendBack_92 : decode cX6_sendBack 92 = .ok (.pop, 1) := by decide +kernel
theorem dX6_sendBack_93 : decode cX6_sendBack 93 = .ok (.iload_n 2, 1) := by decide +kernel
theorem dX6_sendBack_94 : decode cX6_sendBack 94 = .ok (.ireturn, 1) := by decide +kernel
theorem dX6_homes_0 : decode cX6_homes 0 = .ok (.iconst 0, 1) := by decide +kernel
theorem dX6_homes_1 : decode cX6_homes 1 = .ok (.istore_n 2, 1) := by decide +kernel
theorem dX6_homes_2 : decode cX6_homes 2 = .ok (.iconst 0, 1) := by decide +kernel
theorem dX6_homes_3 : decode cX6_homes 3 = .ok (.istore_n 3, 1) := by decide +kernel
theorem dX6_homes_4 : decode cX6_homes 4 = .ok (.iload_n 3, 1) := by decide +kernel
theorem dX6_homes_5 : decode cX6_homes 5 = .ok (.aload_n 0, 1) := by decide +kernel
theorem dX6_homes_6 : decode cX6_homes 6 = .ok (.getfield 75, 3) := by decide +kernel
theorem dX6_homes_9 : decode cX6_homes 9 = .ok (.if_icmp .ge 27, 3) := by decide +kernel
theorem dX6_homes_12 : decode cX6_homes 12 = .ok (.iload_n 2, 1) := by decide +kernel
theorem dX6_homes_13 : decode cX6_homes 13 = .ok (.aload_n 0, 1) := by decide +kernel
theorem dX6_homes_14 : decode cX6_homes 14 = .ok (.getfield 7, 3) := by decide +kernel
theorem dX6_homes_17 : decode cX6_homes 17 = .ok (.iload_n 3, 1) := by decide +kernel
theorem dX6_homes_18 : decode cX6_homes 18 = .ok (.iaload, 1) := by decide +kernel
theorem dX6_homes_19 : decode cX6_homes 19 = .ok (.iload_n 1, 1) := by decide +kernel
theorem dX6_homes_20 : decode cX6_homes 20 = .ok (.if_icmp .ne 7, 3) := by decide +kernel
theorem dX6_homes_23 : decode cX6_homes 23 = .ok (.iconst 1, 1) := by decide +kernel
theorem dX6_homes_24 : decode cX6_homes 24 = .ok (.goto 4, 3) := by decide +kernel
theorem dX6_homes_27 : decode cX6_homes 27 = .ok (.iconst 0, 1) := by decide +kernel
theorem dX6_homes_28 : decode cX6_homes 28 = .ok (.iadd, 1) := by decide +kernel
theorem dX6_homes_29 : decode cX6_homes 29 = .ok (.istore_n 2, 1) := by decide +kernel
theorem dX6_homes_30 : decode cX6_homes 30 = .ok (.iinc 3 1, 3) := by decide +kernel
theorem dX6_homes_33 : decode cX6_homes 33 = .ok (.goto (-29), 3) := by decide +kernel
theorem dX6_homes_36 : decode cX6_homes 36 = .ok (.iload_n 2, 1) := by decide +kernel
theorem dX6_homes_37 : decode cX6_homes 37 = .ok (.ireturn, 1) := by decide +kernel
set_option maxRecDepth 20000 in
theorem ggX6_answer_X6_free : GoodIn wsX6_answer wsX6_free := goodIn_r _ [8, 2, 9, 10, 42, 43, 44, 45, 46, 47, 48, 49, 50, 51, 52, 53, 54, 55, 56, 57, 58, 59, 60, 61, 62, 63, 64, 65] (by decide +kernel) (by decide +kernel)
set_option maxRecDepth 20000 in
theorem gX6_answer_X6_free : GoodIn wsX6_answer (wsV RX6 105 RX6 yX6_free wsX6_free) := goodIn_app (goodIn_of _ (by decide +kernel)) ggX6_answer_X6_free
set_option maxRecDepth 20000 in
theorem ggX6_answer_X6_ask : GoodIn wsX6_answer wsX6_ask := goodIn_r _ [14, 15, 16, 17, 18, 9, 19, 20, 1, 3, 21, 22, 23, 7, 24, 25, 26, 27, 28, 29, 30, 31, 32, 33, 42, 43, 44, 45, 46, 47, 48, 49, 50, 51, 52, 53, 54, 55, 56, 57, 58, 59, 60, 61, 62, 63, 64, 65] (by decide +kernel) (by decide +kernel)
set_option maxRecDepth 20000 in
theorem gX6_answer_X6_ask : GoodIn wsX6_answer (wsV RX6 120 RX6 yX6_ask wsX6_ask) := goodIn_app (goodIn_of _ (by decide +kernel)) ggX6_answer_X6_ask
set_option maxRecDepth 20000 in
theorem ggX6_answer_X6_length : GoodIn wsX6_answer wsX6_length := goodIn_r _ [37, 19, 9, 1, 21, 22, 23, 7, 24, 42, 43, 44, 45, 46, 47, 48, 49, 50, 51, 52, 53, 54, 55, 56, 57, 58, 59, 60, 61, 62, 63, 64, 65] (by decide +kernel) (by decide +kernel)
set_option maxRecDepth 20000 in
theorem gX6_answer_X6_length : GoodIn wsX6_answer (wsV RX6 130 RX6 yX6_length wsX6_length) := goodIn_app (goodIn_of _ (by decide +kernel)) ggX6_answer_X6_length
set_option maxRecDepth 20000 in
theorem ggX6_answer_X6_send : GoodIn wsX6_answer wsX6_send := goodIn_r _ [28, 29, 30, 31, 32, 33, 42, 43, 44, 45, 46, 47, 48, 49, 50, 51, 52, 53, 54, 55, 56, 57, 58, 59, 60, 61, 62, 63, 64, 65] (by decide +kernel) (by decide +kernel)
set_option maxRecDepth 20000 in
theorem gX6_answer_X6_send : GoodIn wsX6_answer (wsV RX6 87 RX6 yX6_send wsX6_send) := goodIn_app (goodIn_of _ (by decide +kernel)) ggX6_answer_X6_send
set_option maxRecDepth 20000 in
theorem ggX6_answer_X6_tell : GoodIn wsX6_answer wsX6_tell := goodIn_r _ [41, 9, 25, 26, 27, 7, 28, 29, 30, 31, 32, 33, 42, 43, 44, 45, 46, 47, 48, 49, 50, 51, 52, 53, 54, 55, 56, 57, 58, 59, 60, 61, 62, 63, 64, 65] (by decide +kernel) (by decide +kernel)
set_option maxRecDepth 20000 in
theorem gX6_answer_X6_tell : GoodIn wsX6_answer (wsV RX6 98 RX6 yX6_tell wsX6_tell) := goodIn_app (goodIn_of _ (by decide +kernel)) ggX6_answer_X6_tell
theorem dX6_answer_0 : decode cX6_answer 0 = .ok (.aload_n 0, 1) := by decide +kernel
theorem dX6_answer_1 : decode cX6_answer 1 = .ok (.getfield 40, 3) := by decide +kernel
theorem dX6_answer_4 : decode cX6_answer 4 = .ok (.iload_n 1, 1) := by decide +kernel
theorem dX6_answer_5 : decode cX6_answer 5 = .ok (.iaload, 1) := by decide +kernel
theorem dX6_answer_6 : decode cX6_answer 6 = .ok (.istore_n 2, 1) := by decide +kernel
theorem dX6_answer_7 : decode cX6_answer 7 = .ok (.aload_n 0, 1) := by decide +kernel
theorem dX6_answer_8 : decode cX6_answer 8 = .ok (.iload_n 2, 1) := by decide +kernel
theorem dX6_answer_9 : decode cX6_answer 9 = .ok (.invokevirtual 105, 3) := by decide +kernel
theorem dX6_answer_12 : decode cX6_answer 12 = .ok (.ifCond .ne 9, 3) := by decide +kernel
theorem dX6_answer_15 : decode cX6_answer 15 = .ok (.aload_n 0, 1) := by decide +kernel
theorem dX6_answer_16 : decode cX6_answer 16 = .ok (.iload_n 1, 1) := by decide +kernel
theorem dX6_answer_17 : decode cX6_answer 17 = .ok (.invokevirtual 120, 3) := by decide +kernel
theorem dX6_answer_20 : decode cX6_answer 20 = .ok (.return_, 1) := by decide +kernel
theorem dX6_answer_21 : decode cX6_answer 21 = .ok (.aload_n 0, 1) := by decide +kernel
theorem dX6_answer_22 : decode cX6_answer 22 = .ok (.getfield 16, 3) := by decide +kernel
theorem dX6_answer_25 : decode cX6_answer 25 = .ok (.iload_n 2, 1) := by decide +kernel
theorem dX6_answer_26 : decode cX6_answer 26 = .ok (.iconst (-1), 1) := by decide +kernel
theorem dX6_answer_27 : decode cX6_answer 27 = .ok (.iastore, 1) := by decide +kernel
theorem dX6_answer_28 : decode cX6_answer 28 = .ok (.aload_n 0, 1) := by decide +kernel
theorem dX6_answer_29 : decode cX6_answer 29 = .ok (.getfield 37, 3) := by decide +kernel
theorem dX6_answer_32 : decode cX6_answer 32 = .ok (.iload_n 1, 1) := by decide +kernel
theorem dX6_answer_33 : decode cX6_answer 33 = .ok (.iconst 1, 1) := by decide +kernel
theorem dX6_answer_34 : decode cX6_answer 34 = .ok (.iastore, 1) := by decide +kernel
theorem dX6_answer_35 : decode cX6_answer 35 = .ok (.aload_n 0, 1) := by decide +kernel
theorem dX6_answer_36 : decode cX6_answer 36 = .ok (.iconst 5, 1) := by decide +kernel
theorem dX6_answer_37 : decode cX6_answer 37 = .ok (.iload_n 1, 1) := by decide +kernel
theorem dX6_answer_38 : decode cX6_answer 38 = .ok (.aload_n 0, 1) := by decide +kernel
theorem dX6_answer_39 : decode cX6_answer 39 = .ok (.iload_n 1, 1) := by decide +kernel
theorem dX6_answer_40 : decode cX6_answer 40 = .ok (.invokevirtual 130, 3) := by decide +kernel
theorem dX6_answer_43 : decode cX6_answer 43 = .ok (.invokevirtual 87, 3) := by decide +kernel
theorem dX6_answer_46 : decode cX6_answer 46 = .ok (.pop, 1) := by decide +kernel
theorem dX6_answer_47 : decode cX6_answer 47 = .ok (.aload_n 0, 1) := by decide +kernel
theorem dX6_answer_48 : decode cX6_answer 48 = .ok (.iload_n 2, 1) := by decide +kernel
theorem dX6_answer_49 : decode cX6_answer 49 = .ok (.iconst 0, 1) := by decide +kernel
theorem dX6_answer_50 : decode cX6_answer 50 = .ok (.invokevirtual 98, 3) := by decide +kernel
theorem dX6_answer_53 : decode cX6_answer 53 = .ok (.return_, 1) := by decide +kernel
set_option maxRecDepth 20000 in
theorem ggX6_come_X6_homes : GoodIn wsX6_come wsX6_homes := goodIn_r _ [14, 15, 5, 43, 44, 45, 46, 47, 48, 49, 50, 51, 52, 53, 54, 55, 56, 57, 58, 59, 60, 61, 62, 63, 64, 65, 66] (by decide +kernel) (by decide +kernel)
set_option maxRecDepth 20000 in
theorem gX6_come_X6_homes : GoodIn wsX6_come (wsV RX6 133 RX6 yX6_homes wsX6_homes) := goodIn_app (goodIn_of _ (by decide +kernel)) ggX6_come_X6_homes
set_option maxRecDepth 20000 in
theorem ggX6_come_X6_owe : GoodIn wsX6_come wsX6_owe := goodIn_r _ [19, 20, 43, 44, 45, 46, 47, 48, 49, 50, 51, 52, 53, 54, 55, 56, 57, 58, 59, 60, 61, 62, 63, 64, 65, 66] (by decide +kernel) (by decide +kernel)
set_option maxRecDepth 20000 in
theorem gX6_come_X6_owe : GoodIn wsX6_come (wsV RX6 108 RX6 yX6_owe wsX6_owe) := goodIn_app (goodIn_of _ (by decide +kernel)) ggX6_come_X6_owe
set_option maxRecDepth 20000 in
theorem ggX6_come_X6_find : GoodIn wsX6_come wsX6_find := goodIn_r _ [24, 25, 26, 5, 16, 17, 18, 13, 19, 20, 43, 44, 45, 46, 47, 48, 49, 50, 51, 52, 53, 54, 55, 56, 57, 58, 59, 60, 61, 62, 63, 64, 65, 66] (by decide +kernel) (by decide +kernel)
set_option maxRecDepth 20000 in
theorem gX6_come_X6_find : GoodIn wsX6_come (wsV RX6 112 RX6 yX6_find wsX6_find) := goodIn_app (goodIn_of _ (by decide +kernel)) ggX6_come_X6_find
set_option maxRecDepth 20000 in
theorem ggX6_come_X6_free : GoodIn wsX6_come wsX6_free := goodIn_r _ [30, 6, 5, 26, 43, 44, 45, 46, 47, 48, 49, 50, 51, 52, 53, 54, 55, 56, 57, 58, 59, 60, 61, 62, 63, 64, 65, 66] (by decide +kernel) (by decide +kernel)
set_option maxRecDepth 20000 in
theorem gX6_come_X6_free : GoodIn wsX6_come (wsV RX6 105 RX6 yX6_free wsX6_free) := goodIn_app (goodIn_of _ (by decide +kernel)) ggX6_come_X6_free
set_option maxRecDepth 20000 in
theorem ggX6_come_X6_tell : GoodIn wsX6_come wsX6_tell := goodIn_r _ [34, 5, 35, 36, 37, 13, 38, 39, 40, 41, 42, 9, 43, 44, 45, 46, 47, 48, 49, 50, 51, 52, 53, 54, 55, 56, 57, 58, 59, 60, 61, 62, 63, 64, 65, 66] (by decide +kernel) (by decide +kernel)
set_option maxRecDepth 20000 in
theorem gX6_come_X6_tell : GoodIn wsX6_come (wsV RX6 98 RX6 yX6_tell wsX6_tell) := goodIn_app (goodIn_of _ (by decide +kernel)) ggX6_come_X6_tell
theorem dX6_come_0 : decode cX6_come 0 = .ok (.aload_n 0, 1) := by decide +kernel
theorem dX6_come_1 : decode cX6_come 1 = .ok (.getfield 40, 3) := by decide +kernel
theorem dX6_come_4 : decode cX6_come 4 = .ok (.iload_n 1, 1) := by decide +kernel
theorem dX6_come_5 : decode cX6_come 5 = .ok (.iaload, 1) := by decide +kernel
theorem dX6_come_6 : decode cX6_come 6 = .ok (.istore_n 2, 1) := by decide +kernel
theorem dX6_come_7 : decode cX6_come 7 = .ok (.aload_n 0, 1) := by decide +kernel
theorem dX6_come_8 : decode cX6_come 8 = .ok (.getfield 31, 3) := by decide +kernel
theorem dX6_come_11 : decode cX6_come 11 = .ok (.iload_n 1, 1) := by decide +kernel
theorem dX6_come_12 : decode cX6_come 12 = .ok (.iaload, 1) := by decide +kernel
theorem dX6_come_13 : decode cX6_come 13 = .ok (.istore_n 3, 1) := by decide +kernel
theorem dX6_come_14 : decode cX6_come 14 = .ok (.aload_n 0, 1) := by decide +kernel
theorem dX6_come_15 : decode cX6_come 15 = .ok (.getfield 37, 3) := by decide +kernel
theorem dX6_come_18 : decode cX6_come 18 = .ok (.iload_n 1, 1) := by decide +kernel
theorem dX6_come_19 : decode cX6_come 19 = .ok (.iaload, 1) := by decide +kernel
theorem dX6_come_20 : decode cX6_come 20 = .ok (.iconst 1, 1) := by decide +kernel
theorem dX6_come_21 : decode cX6_come 21 = .ok (.if_icmp .ne 105, 3) := by decide +kernel
theorem dX6_come_24 : decode cX6_come 24 = .ok (.aload_n 0, 1) := by decide +kernel
theorem dX6_come_25 : decode cX6_come 25 = .ok (.iload_n 3, 1) := by decide +kernel
theorem dX6_come_26 : decode cX6_come 26 = .ok (.invokevirtual 133, 3) := by decide +kernel
theorem dX6_come_29 : decode cX6_come 29 = .ok (.iconst 3, 1) := by decide +kernel
theorem dX6_come_30 : decode cX6_come 30 = .ok (.if_icmp .ge 17, 3) := by decide +kernel
theorem dX6_come_33 : decode cX6_come 33 = .ok (.aload_n 0, 1) := by decide +kernel
theorem dX6_come_34 : decode cX6_come 34 = .ok (.getfield 64, 3) := by decide +kernel
theorem dX6_come_37 : decode cX6_come 37 = .ok (.iload_n 3, 1) := by decide +kernel
theorem dX6_come_38 : decode cX6_come 38 = .ok (.iaload, 1) := by decide +kernel
theorem dX6_come_39 : decode cX6_come 39 = .ok (.iconst 2, 1) := by decide +kernel
theorem dX6_come_40 : decode cX6_come 40 = .ok (.if_icmp .ge 7, 3) := by decide +kernel
theorem dX6_come_43 : decode cX6_come 43 = .ok (.iconst 1, 1) := by decide +kernel
theorem dX6_come_44 : decode cX6_come 44 = .ok (.goto 4, 3) := by decide +kernel
theorem dX6_come_47 : decode cX6_come 47 = .ok (.iconst 0, 1) := by decide +kernel
theorem dX6_come_48 : decode cX6_come 48 = .ok (.istore 4, 2) := by decide +kernel
theorem dX6_come_50 : decode cX6_come 50 = .ok (.aload_n 0, 1) := by decide +kernel
theorem dX6_come_51 : decode cX6_come 51 = .ok (.getfield 64, 3) := by decide +kernel
theorem dX6_come_54 : decode cX6_come 54 = .ok (.iload_n 3, 1) := by decide +kernel
theorem dX6_come_55 : decode cX6_come 55 = .ok (.dup2, 1) := by decide +kernel
theorem dX6_come_56 : decode cX6_come 56 = .ok (.iaload, 1) := by decide +kernel
theorem dX6_come_57 : decode cX6_come 57 = .ok (.iload 4, 2) := by decide +kernel
theorem dX6_come_59 : decode cX6_come 59 = .ok (.ifCond .eq 7, 3) := by decide +kernel
theorem dX6_come_62 : decode cX6_come 62 = .ok (.iconst 1, 1) := by decide +kernel
theorem dX6_come_63 : decode cX6_come 63 = .ok (.goto 4, 3) := by decide +kernel
theorem dX6_come_66 : decode cX6_come 66 = .ok (.iconst 0, 1) := by decide +kernel
theorem dX6_come_67 : decode cX6_come 67 = .ok (.iadd, 1) := by decide +kernel
theorem dX6_come_68 : decode cX6_come 68 = .ok (.iastore, 1) := by decide +kernel
theorem dX6_come_69 : decode cX6_come 69 = .ok (.aload_n 0, 1) := by decide +kernel
theorem dX6_come_70 : decode cX6_come 70 = .ok (.iload_n 3, 1) := by decide +kernel
theorem dX6_come_71 : decode cX6_come 71 = .ok (.aload_n 0, 1) := by decide +kernel
theorem dX6_come_72 : decode cX6_come 72 = .ok (.getfield 7, 3) := by decide +kernel
theorem dX6_come_75 : decode cX6_come 75 = .ok (.iload_n 2, 1) := by decide +kernel
theorem dX6_come_76 : decode cX6_come 76 = .ok (.iaload, 1) := by decide +kernel
theorem dX6_come_77 : decode cX6_come 77 = .ok (.iload 4, 2) := by decide +kernel
theorem dX6_come_79 : decode cX6_come 79 = .ok (.ifCond .eq 7, 3) := by decide +kernel
theorem dX6_come_82 : decode cX6_come 82 = .ok (.iconst 0, 1) := by decide +kernel
theorem dX6_come_83 : decode cX6_come 83 = .ok (.goto 5, 3) := by decide +kernel
theorem dX6_come_86 : decode cX6_come 86 = .ok (.bipush 6, 2) := by decide +kernel
theorem dX6_come_88 : decode cX6_come 88 = .ok (.invokevirtual 108, 3) := by decide +kernel
theorem dX6_come_91 : decode cX6_come 91 = .ok (.aload_n 0, 1) := by decide +kernel
theorem dX6_come_92 : decode cX6_come 92 = .ok (.getfield 16, 3) := by decide +kernel
theorem dX6_come_95 : decode cX6_come 95 = .ok (.iload_n 2, 1) := by decide +kernel
theorem dX6_come_96 : decode cX6_come 96 = .ok (.iload_n 3, 1) := by decide +kernel
theorem dX6_come_97 : decode cX6_come 97 = .ok (.iastore, 1) := by decide +kernel
theorem dX6_come_98 : decode cX6_come 98 = .ok (.aload_n 0, 1) := by decide +kernel
theorem dX6_come_99 : decode cX6_come 99 = .ok (.getfield 19, 3) := by decide +kernel
theorem dX6_come_102 : decode cX6_come 102 = .ok (.iload_n 2, 1) := by decide +kernel
theorem dX6_come_103 : decode cX6_come 103 = .ok (.iload_n 3, 1) := by decide +kernel
theorem dX6_come_104 : decode cX6_come 104 = .ok (.iastore, 1) := by decide +kernel
theorem dX6_come_105 : decode cX6_come 105 = .ok (.aload_n 0, 1) := by decide +kernel
theorem dX6_come_106 : decode cX6_come 106 = .ok (.getfield 37, 3) := by decide +kernel
theorem dX6_come_109 : decode cX6_come 109 = .ok (.iload_n 1, 1) := by decide +kernel
theorem dX6_come_110 : decode cX6_come 110 = .ok (.iconst 2, 1) := by decide +kernel
theorem dX6_come_111 : decode cX6_come 111 = .ok (.iastore, 1) := by decide +kernel
theorem dX6_come_112 : decode cX6_come 112 = .ok (.aload_n 0, 1) := by decide +kernel
theorem dX6_come_113 : decode cX6_come 113 = .ok (.getfield 43, 3) := by decide +kernel
theorem dX6_come_116 : decode cX6_come 116 = .ok (.iload_n 1, 1) := by decide +kernel
theorem dX6_come_117 : decode cX6_come 117 = .ok (.aload_n 0, 1) := by decide +kernel
theorem dX6_come_118 : decode cX6_come 118 = .ok (.getfield 84, 3) := by decide +kernel
theorem dX6_come_121 : decode cX6_come 121 = .ok (.bipush 20, 2) := by decide +kernel
theorem dX6_come_123 : decode cX6_come 123 = .ok (.iadd, 1) := by decide +kernel
end
section
theorem dX6_come_124 : decode cX6_come 124 = .ok (.iastore, 1) := by decide +kernel
theorem dX6_come_125 : decode cX6_come 125 = .ok (.return_, 1) := by decide +kernel
theorem dX6_come_126 : decode cX6_come 126 = .ok (.aload_n 0, 1) := by decide +kernel
theorem dX6_come_127 : decode cX6_come 127 = .ok (.getfield 16, 3) := by decide +kernel
theorem dX6_come_130 : decode cX6_come 130 = .ok (.iload_n 2, 1) := by decide +kernel
theorem dX6_come_131 : decode cX6_come 131 = .ok (.aload_n 0, 1) := by decide +kernel
theorem dX6_come_132 : decode cX6_come 132 = .ok (.getfield 7, 3) := by decide +kernel
theorem dX6_come_135 : decode cX6_come 135 = .ok (.iload_n 2, 1) := by decide +kernel
theorem dX6_come_136 : decode cX6_come 136 = .ok (.iaload, 1) := by decide +kernel
theorem dX6_come_137 : decode cX6_come 137 = .ok (.iastore, 1) := by decide +kernel
theorem dX6_come_138 : decode cX6_come 138 = .ok (.aload_n 0, 1) := by decide +kernel
theorem dX6_come_139 : decode cX6_come 139 = .ok (.getfield 19, 3) := by decide +kernel
theorem dX6_come_142 : decode cX6_come 142 = .ok (.iload_n 2, 1) := by decide +kernel
theorem dX6_come_143 : decode cX6_come 143 = .ok (.aload_n 0, 1) := by decide +kernel
theorem dX6_come_144 : decode cX6_come 144 = .ok (.getfield 7, 3) := by decide +kernel
theorem dX6_come_147 : decode cX6_come 147 = .ok (.iload_n 2, 1) := by decide +kernel
theorem dX6_come_148 : decode cX6_come 148 = .ok (.iaload, 1) := by decide +kernel
theorem dX6_come_149 : decode cX6_come 149 = .ok (.iastore, 1) := by decide +kernel
theorem dX6_come_150 : decode cX6_come 150 = .ok (.aload_n 0, 1) := by decide +kernel
theorem dX6_come_151 : decode cX6_come 151 = .ok (.getfield 37, 3) := by decide +kernel
theorem dX6_come_154 : decode cX6_come 154 = .ok (.iload_n 1, 1) := by decide +kernel
theorem dX6_come_155 : decode cX6_come 155 = .ok (.iconst 4, 1) := by decide +kernel
theorem dX6_come_156 : decode cX6_come 156 = .ok (.iastore, 1) := by decide +kernel
theorem dX6_come_157 : decode cX6_come 157 = .ok (.aload_n 0, 1) := by decide +kernel
theorem dX6_come_158 : decode cX6_come 158 = .ok (.iload_n 2, 1) := by decide +kernel
theorem dX6_come_159 : decode cX6_come 159 = .ok (.invokevirtual 112, 3) := by decide +kernel
theorem dX6_come_162 : decode cX6_come 162 = .ok (.pop, 1) := by decide +kernel
theorem dX6_come_163 : decode cX6_come 163 = .ok (.aload_n 0, 1) := by decide +kernel
theorem dX6_come_164 : decode cX6_come 164 = .ok (.iload_n 2, 1) := by decide +kernel
theorem dX6_come_165 : decode cX6_come 165 = .ok (.invokevirtual 105, 3) := by decide +kernel
theorem dX6_come_168 : decode cX6_come 168 = .ok (.ifCond .eq 9, 3) := by decide +kernel
theorem dX6_come_171 : decode cX6_come 171 = .ok (.aload_n 0, 1) := by decide +kernel
theorem dX6_come_172 : decode cX6_come 172 = .ok (.iload_n 2, 1) := by decide +kernel
theorem dX6_come_173 : decode cX6_come 173 = .ok (.iconst 1, 1) := by decide +kernel
theorem dX6_come_174 : decode cX6_come 174 = .ok (.invokevirtual 98, 3) := by decide +kernel
theorem dX6_come_177 : decode cX6_come 177 = .ok (.return_, 1) := by decide +kernel
set_option maxRecDepth 20000 in
theorem ggX6_arrive_X6_answer : GoodIn wsX6_arrive wsX6_answer := goodIn_r _ [10, 11, 12, 3, 13, 14, 15, 9, 16, 17, 18, 19, 20, 21, 22, 23, 24, 25, 1, 26, 27, 28, 29, 30, 31, 32, 33, 34, 35, 36, 37, 38, 39, 5, 40, 41, 42, 43, 44, 45, 46, 47, 68, 69, 70, 71, 72, 73, 74, 75, 76, 77, 78, 79, 80, 81, 82, 83, 84, 85, 86, 87, 88, 89, 90, 91] (by decide +kernel) (by decide +kernel)
set_option maxRecDepth 20000 in
theorem gX6_arrive_X6_answer : GoodIn wsX6_arrive (wsV RX6 136 RX6 yX6_answer wsX6_answer) := goodIn_app (goodIn_of _ (by decide +kernel)) ggX6_arrive_X6_answer
set_option maxRecDepth 20000 in
theorem ggX6_arrive_X6_come : GoodIn wsX6_arrive wsX6_come := goodIn_r _ [51, 11, 26, 3, 52, 17, 12, 53, 2, 5, 54, 55, 56, 9, 57, 23, 58, 59, 60, 61, 62, 63, 64, 65, 66, 67, 18, 13, 14, 15, 16, 44, 45, 46, 47, 32, 33, 34, 35, 36, 37, 38, 39, 68, 69, 70, 71, 72, 73, 74, 75, 76, 77, 78, 79, 80, 81, 82, 83, 84, 85, 86, 87, 88, 89, 90, 91] (by decide +kernel) (by decide +kernel)
set_option maxRecDepth 20000 in
theorem gX6_arrive_X6_come : GoodIn wsX6_arrive (wsV RX6 139 RX6 yX6_come wsX6_come) := goodIn_app (goodIn_of _ (by decide +kernel)) ggX6_arrive_X6_come
theorem dX6_arrive_0 : decode cX6_arrive 0 = .ok (.iload_n 1, 1) := by decide +kernel
theorem dX6_arrive_1 : decode cX6_arrive 1 = .ok (.iconst 2, 1) := by decide +kernel
theorem dX6_arrive_2 : decode cX6_arrive 2 = .ok (.if_icmp .ge 13, 3) := by decide +kernel
theorem dX6_arrive_5 : decode cX6_arrive 5 = .ok (.aload_n 0, 1) := by decide +kernel
theorem dX6_arrive_6 : decode cX6_arrive 6 = .ok (.getfield 22, 3) := by decide +kernel
theorem dX6_arrive_9 : decode cX6_arrive 9 = .ok (.iload_n 2, 1) := by decide +kernel
theorem dX6_arrive_10 : decode cX6_arrive 10 = .ok (.iload_n 1, 1) := by decide +kernel
theorem dX6_arrive_11 : decode cX6_arrive 11 = .ok (.iastore, 1) := by decide +kernel
theorem dX6_arrive_12 : decode cX6_arrive 12 = .ok (.goto 117, 3) := by decide +kernel
theorem dX6_arrive_15 : decode cX6_arrive 15 = .ok (.iload_n 1, 1) := by decide +kernel
theorem dX6_arrive_16 : decode cX6_arrive 16 = .ok (.iconst 2, 1) := by decide +kernel
theorem dX6_arrive_17 : decode cX6_arrive 17 = .ok (.if_icmp .ne 11, 3) := by decide +kernel
theorem dX6_arrive_20 : decode cX6_arrive 20 = .ok (.aload_n 0, 1) := by decide +kernel
theorem dX6_arrive_21 : decode cX6_arrive 21 = .ok (.iload_n 2, 1) := by decide +kernel
theorem dX6_arrive_22 : decode cX6_arrive 22 = .ok (.invokevirtual 136, 3) := by decide +kernel
theorem dX6_arrive_25 : decode cX6_arrive 25 = .ok (.goto 104, 3) := by decide +kernel
theorem dX6_arrive_28 : decode cX6_arrive 28 = .ok (.iload_n 1, 1) := by decide +kernel
theorem dX6_arrive_29 : decode cX6_arrive 29 = .ok (.iconst 3, 1) := by decide +kernel
theorem dX6_arrive_30 : decode cX6_arrive 30 = .ok (.if_icmp .ne 40, 3) := by decide +kernel
theorem dX6_arrive_33 : decode cX6_arrive 33 = .ok (.aload_n 0, 1) := by decide +kernel
theorem dX6_arrive_34 : decode cX6_arrive 34 = .ok (.getfield 43, 3) := by decide +kernel
theorem dX6_arrive_37 : decode cX6_arrive 37 = .ok (.iload_n 2, 1) := by decide +kernel
theorem dX6_arrive_38 : decode cX6_arrive 38 = .ok (.dup2, 1) := by decide +kernel
theorem dX6_arrive_39 : decode cX6_arrive 39 = .ok (.iaload, 1) := by decide +kernel
theorem dX6_arrive_40 : decode cX6_arrive 40 = .ok (.aload_n 0, 1) := by decide +kernel
theorem dX6_arrive_41 : decode cX6_arrive 41 = .ok (.getfield 37, 3) := by decide +kernel
theorem dX6_arrive_44 : decode cX6_arrive 44 = .ok (.iload_n 2, 1) := by decide +kernel
theorem dX6_arrive_45 : decode cX6_arrive 45 = .ok (.iaload, 1) := by decide +kernel
theorem dX6_arrive_46 : decode cX6_arrive 46 = .ok (.iconst 2, 1) := by decide +kernel
theorem dX6_arrive_47 : decode cX6_arrive 47 = .ok (.if_icmp .ne 17, 3) := by decide +kernel
theorem dX6_arrive_50 : decode cX6_arrive 50 = .ok (.aload_n 0, 1) := by decide +kernel
theorem dX6_arrive_51 : decode cX6_arrive 51 = .ok (.getfield 49, 3) := by decide +kernel
theorem dX6_arrive_54 : decode cX6_arrive 54 = .ok (.iload_n 2, 1) := by decide +kernel
theorem dX6_arrive_55 : decode cX6_arrive 55 = .ok (.iaload, 1) := by decide +kernel
theorem dX6_arrive_56 : decode cX6_arrive 56 = .ok (.ifCond .ne 8, 3) := by decide +kernel
theorem dX6_arrive_59 : decode cX6_arrive 59 = .ok (.bipush 20, 2) := by decide +kernel
theorem dX6_arrive_61 : decode cX6_arrive 61 = .ok (.goto 4, 3) := by decide +kernel
theorem dX6_arrive_64 : decode cX6_arrive 64 = .ok (.iconst 0, 1) := by decide +kernel
theorem dX6_arrive_65 : decode cX6_arrive 65 = .ok (.iadd, 1) := by decide +kernel
theorem dX6_arrive_66 : decode cX6_arrive 66 = .ok (.iastore, 1) := by decide +kernel
theorem dX6_arrive_67 : decode cX6_arrive 67 = .ok (.goto 62, 3) := by decide +kernel
theorem dX6_arrive_70 : decode cX6_arrive 70 = .ok (.iload_n 1, 1) := by decide +kernel
theorem dX6_arrive_71 : decode cX6_arrive 71 = .ok (.iconst 4, 1) := by decide +kernel
theorem dX6_arrive_72 : decode cX6_arrive 72 = .ok (.if_icmp .ne 52, 3) := by decide +kernel
theorem dX6_arrive_75 : decode cX6_arrive 75 = .ok (.aload_n 0, 1) := by decide +kernel
theorem dX6_arrive_76 : decode cX6_arrive 76 = .ok (.getfield 43, 3) := by decide +kernel
theorem dX6_arrive_79 : decode cX6_arrive 79 = .ok (.iload_n 2, 1) := by decide +kernel
theorem dX6_arrive_80 : decode cX6_arrive 80 = .ok (.aload_n 0, 1) := by decide +kernel
theorem dX6_arrive_81 : decode cX6_arrive 81 = .ok (.getfield 37, 3) := by decide +kernel
theorem dX6_arrive_84 : decode cX6_arrive 84 = .ok (.iload_n 2, 1) := by decide +kernel
theorem dX6_arrive_85 : decode cX6_arrive 85 = .ok (.iaload, 1) := by decide +kernel
theorem dX6_arrive_86 : decode cX6_arrive 86 = .ok (.iconst 2, 1) := by decide +kernel
theorem dX6_arrive_87 : decode cX6_arrive 87 = .ok (.if_icmp .ne 27, 3) := by decide +kernel
theorem dX6_arrive_90 : decode cX6_arrive 90 = .ok (.aload_n 0, 1) := by decide +kernel
theorem dX6_arrive_91 : decode cX6_arrive 91 = .ok (.getfield 43, 3) := by decide +kernel
theorem dX6_arrive_94 : decode cX6_arrive 94 = .ok (.iload_n 2, 1) := by decide +kernel
theorem dX6_arrive_95 : decode cX6_arrive 95 = .ok (.iaload, 1) := by decide +kernel
theorem dX6_arrive_96 : decode cX6_arrive 96 = .ok (.aload_n 0, 1) := by decide +kernel
theorem dX6_arrive_97 : decode cX6_arrive 97 = .ok (.getfield 84, 3) := by decide +kernel
theorem dX6_arrive_100 : decode cX6_arrive 100 = .ok (.iconst 5, 1) := by decide +kernel
theorem dX6_arrive_101 : decode cX6_arrive 101 = .ok (.iadd, 1) := by decide +kernel
theorem dX6_arrive_102 : decode cX6_arrive 102 = .ok (.if_icmp .le 12, 3) := by decide +kernel
theorem dX6_arrive_105 : decode cX6_arrive 105 = .ok (.aload_n 0, 1) := by decide +kernel
theorem dX6_arrive_106 : decode cX6_arrive 106 = .ok (.getfield 84, 3) := by decide +kernel
theorem dX6_arrive_109 : decode cX6_arrive 109 = .ok (.iconst 5, 1) := by decide +kernel
theorem dX6_arrive_110 : decode cX6_arrive 110 = .ok (.iadd, 1) := by decide +kernel
theorem dX6_arrive_111 : decode cX6_arrive 111 = .ok (.goto 9, 3) := by decide +kernel
theorem dX6_arrive_114 : decode cX6_arrive 114 = .ok (.aload_n 0, 1) := by decide +kernel
theorem dX6_arrive_115 : decode cX6_arrive 115 = .ok (.getfield 43, 3) := by decide +kernel
theorem dX6_arrive_118 : decode cX6_arrive 118 = .ok (.iload_n 2, 1) := by decide +kernel
theorem dX6_arrive_119 : decode cX6_arrive 119 = .ok (.iaload, 1) := by decide +kernel
theorem dX6_arrive_120 : decode cX6_arrive 120 = .ok (.iastore, 1) := by decide +kernel
theorem dX6_arrive_121 : decode cX6_arrive 121 = .ok (.goto 8, 3) := by decide +kernel
theorem dX6_arrive_124 : decode cX6_arrive 124 = .ok (.aload_n 0, 1) := by decide +kernel
theorem dX6_arrive_125 : decode cX6_arrive 125 = .ok (.iload_n 2, 1) := by decide +kernel
theorem dX6_arrive_126 : decode cX6_arrive 126 = .ok (.invokevirtual 139, 3) := by decide +kernel
theorem dX6_arrive_129 : decode cX6_arrive 129 = .ok (.return_, 1) := by decide +kernel
set_option maxRecDepth 20000 in
theorem ggX6_arriveAll_X6_arrive : GoodIn wsX6_arriveAll wsX6_arrive := goodIn_r _ [10, 11, 12, 13, 14, 3, 15, 16, 17, 9, 18, 19, 20, 21, 22, 23, 24, 25, 26, 27, 28, 29, 30, 31, 32, 33, 34, 35, 36, 37, 38, 39, 40, 41, 42, 43, 4, 1, 5, 2, 44, 45, 46, 47, 48, 49, 50, 51, 52, 53, 54, 55, 56, 57, 58, 59, 60, 61, 62, 63, 64, 65, 66, 67, 68, 69, 70, 71, 72, 73, 74, 75, 76, 77, 78, 79, 80, 81, 82, 83, 84, 85, 86, 87, 88, 89, 90, 91, 92, 93, 94, 95] (by decide +kernel) (by decide +kernel)
set_option maxRecDepth 20000 in
theorem gX6_arriveAll_X6_arrive : GoodIn wsX6_arriveAll (wsV RX6 142 RX6 yX6_arrive wsX6_arrive) := goodIn_app (goodIn_of _ (by decide +kernel)) ggX6_arriveAll_X6_arrive
theorem dX6_arriveAll_0 : decode cX6_arriveAll 0 = .ok (.iconst 0, 1) := by decide +kernel
theorem dX6_arriveAll_1 : decode cX6_arriveAll 1 = .ok (.istore_n 1, 1) := by decide +kernel
theorem dX6_arriveAll_2 : decode cX6_arriveAll 2 = .ok (.aload_n 0, 1) := by decide +kernel
theorem dX6_arriveAll_3 : decode cX6_arriveAll 3 = .ok (.getfield 81, 3) := by decide +kernel
theorem dX6_arriveAll_6 : decode cX6_arriveAll 6 = .ok (.istore_n 2, 1) := by decide +kernel
theorem dX6_arriveAll_7 : decode cX6_arriveAll 7 = .ok (.iconst 0, 1) := by decide +kernel
theorem dX6_arriveAll_8 : decode cX6_arriveAll 8 = .ok (.istore_n 3, 1) := by decide +kernel
theorem dX6_arriveAll_9 : decode cX6_arriveAll 9 = .ok (.iload_n 3, 1) := by decide +kernel
theorem dX6_arriveAll_10 : decode cX6_arriveAll 10 = .ok (.iload_n 2, 1) := by decide +kernel
theorem dX6_arriveAll_11 : decode cX6_arriveAll 11 = .ok (.if_icmp .ge 41, 3) := by decide +kernel
theorem dX6_arriveAll_14 : decode cX6_arriveAll 14 = .ok (.aload_n 0, 1) := by decide +kernel
theorem dX6_arriveAll_15 : decode cX6_arriveAll 15 = .ok (.getfield 58, 3) := by decide +kernel
theorem dX6_arriveAll_18 : decode cX6_arriveAll 18 = .ok (.iload_n 3, 1) := by decide +kernel
theorem dX6_arriveAll_19 : decode cX6_arriveAll 19 = .ok (.iaload, 1) := by decide +kernel
theorem dX6_arriveAll_20 : decode cX6_arriveAll 20 = .ok (.aload_n 0, 1) := by decide +kernel
theorem dX6_arriveAll_21 : decode cX6_arriveAll 21 = .ok (.getfield 84, 3) := by decide +kernel
theorem dX6_arriveAll_24 : decode cX6_arriveAll 24 = .ok (.if_icmp .ne 22, 3) := by decide +kernel
theorem dX6_arriveAll_27 : decode cX6_arriveAll 27 = .ok (.aload_n 0, 1) := by decide +kernel
theorem dX6_arriveAll_28 : decode cX6_arriveAll 28 = .ok (.aload_n 0, 1) := by decide +kernel
theorem dX6_arriveAll_29 : decode cX6_arriveAll 29 = .ok (.getfield 52, 3) := by decide +kernel
theorem dX6_arriveAll_32 : decode cX6_arriveAll 32 = .ok (.iload_n 3, 1) := by decide +kernel
theorem dX6_arriveAll_33 : decode cX6_arriveAll 33 = .ok (.iaload, 1) := by decide +kernel
theorem dX6_arriveAll_34 : decode cX6_arriveAll 34 = .ok (.aload_n 0, 1) := by decide +kernel
theorem dX6_arriveAll_35 : decode cX6_arriveAll 35 = .ok (.getfield 55, 3) := by decide +kernel
theorem dX6_arriveAll_38 : decode cX6_arriveAll 38 = .ok (.iload_n 3, 1) := by decide +kernel
theorem dX6_arriveAll_39 : decode cX6_arriveAll 39 = .ok (.iaload, 1) := by decide +kernel
theorem dX6_arriveAll_40 : decode cX6_arriveAll 40 = .ok (.invokevirtual 142, 3) := by decide +kernel
theorem dX6_arriveAll_43 : decode cX6_arriveAll 43 = .ok (.iinc 1 1, 3) := by decide +kernel
theorem dX6_arriveAll_46 : decode cX6_arriveAll 46 = .ok (.iinc 3 1, 3) := by decide +kernel
theorem dX6_arriveAll_49 : decode cX6_arriveAll 49 = .ok (.goto (-40), 3) := by decide +kernel
theorem dX6_arriveAll_52 : decode cX6_arriveAll 52 = .ok (.iconst 0, 1) := by decide +kernel
theorem dX6_arriveAll_53 : decode cX6_arriveAll 53 = .ok (.istore_n 3, 1) := by decide +kernel
theorem dX6_arriveAll_54 : decode cX6_arriveAll 54 = .ok (.iconst 0, 1) := by decide +kernel
theorem dX6_arriveAll_55 : decode cX6_arriveAll 55 = .ok (.istore 4, 2) := by decide +kernel
theorem dX6_arriveAll_57 : decode cX6_arriveAll 57 = .ok (.iload 4, 2) := by decide +kernel
theorem dX6_arriveAll_59 : decode cX6_arriveAll 59 = .ok (.aload_n 0, 1) := by decide +kernel
theorem dX6_arriveAll_60 : decode cX6_arriveAll 60 = .ok (.getfield 81, 3) := by decide +kernel
theorem dX6_arriveAll_63 : decode cX6_arriveAll 63 = .ok (.if_icmp .ge 65, 3) := by decide +kernel
theorem dX6_arriveAll_66 : decode cX6_arriveAll 66 = .ok (.aload_n 0, 1) := by decide +kernel
theorem dX6_arriveAll_67 : decode cX6_arriveAll 67 = .ok (.getfield 58, 3) := by decide +kernel
theorem dX6_arriveAll_70 : decode cX6_arriveAll 70 = .ok (.iload 4, 2) := by decide +kernel
theorem dX6_arriveAll_72 : decode cX6_arriveAll 72 = .ok (.iaload, 1) := by decide +kernel
theorem dX6_arriveAll_73 : decode cX6_arriveAll 73 = .ok (.aload_n 0, 1) := by decide +kernel
theorem dX6_arriveAll_74 : decode cX6_arriveAll 74 = .ok (.getfield 84, 3) := by decide +kernel
theorem dX6_arriveAll_77 : decode cX6_arriveAll 77 = .ok (.if_icmp .le 45, 3) := by decide +kernel
theorem dX6_arriveAll_80 : decode cX6_arriveAll 80 = .ok (.aload_n 0, 1) := by decide +kernel
theorem dX6_arriveAll_81 : decode cX6_arriveAll 81 = .ok (.getfield 52, 3) := by decide +kernel
theorem dX6_arriveAll_84 : decode cX6_arriveAll 84 = .ok (.iload_n 3, 1) := by decide +kernel
theorem dX6_arriveAll_85 : decode cX6_arriveAll 85 = .ok (.aload_n 0, 1) := by decide +kernel
theorem dX6_arriveAll_86 : decode cX6_arriveAll 86 = .ok (.getfield 52, 3) := by decide +kernel
theorem dX6_arriveAll_89 : decode cX6_arriveAll 89 = .ok (.iload 4, 2) := by decide +kernel
theorem dX6_arriveAll_91 : decode cX6_arriveAll 91 = .ok (.iaload, 1) := by decide +kernel
theorem dX6_arriveAll_92 : decode cX6_arriveAll 92 = .ok (.iastore, 1) := by decide +kernel
theorem dX6_arriveAll_93 : decode cX6_arriveAll 93 = .ok (.aload_n 0, 1) := by decide +kernel
theorem dX6_arriveAll_94 : decode cX6_arriveAll 94 = .ok (.getfield 55, 3) := by decide +kernel
theorem dX6_arriveAll_97 : decode cX6_arriveAll 97 = .ok (.iload_n 3, 1) := by decide +kernel
theorem dX6_arriveAll_98 : decode cX6_arriveAll 98 = .ok (.aload_n 0, 1) := by decide +kernel
theorem dX6_arriveAll_99 : decode cX6_arriveAll 99 = .ok (.getfield 55, 3) := by decide +kernel
theorem dX6_arriveAll_102 : decode cX6_arriveAll 102 = .ok (.iload 4, 2) := by decide +kernel
theorem dX6_arriveAll_104 : decode cX6_arriveAll 104 = .ok (.iaload, 1) := by decide +kernel
theorem dX6_arriveAll_105 : decode cX6_arriveAll 105 = .ok (.iastore, 1) := by decide +kernel
theorem dX6_arriveAll_106 : decode cX6_arriveAll 106 = .ok (.aload_n 0, 1) := by decide +kernel
theorem dX6_arriveAll_107 : decode cX6_arriveAll 107 = .ok (.getfield 58, 3) := by decide +kernel
theorem dX6_arriveAll_110 : decode cX6_arriveAll 110 = .ok (.iload_n 3, 1) := by decide +kernel
theorem dX6_arriveAll_111 : decode cX6_arriveAll 111 = .ok (.aload_n 0, 1) := by decide +kernel
theorem dX6_arriveAll_112 : decode cX6_arriveAll 112 = .ok (.getfield 58, 3) := by decide +kernel
theorem dX6_arriveAll_115 : decode cX6_arriveAll 115 = .ok (.iload 4, 2) := by decide +kernel
theorem dX6_arriveAll_117 : decode cX6_arriveAll 117 = .ok (.iaload, 1) := by decide +kernel
theorem dX6_arriveAll_118 : decode cX6_arriveAll 118 = .ok (.iastore, 1) := by decide +kernel
theorem dX6_arriveAll_119 : decode cX6_arriveAll 119 = .ok (.iinc 3 1, 3) := by decide +kernel
theorem dX6_arriveAll_122 : decode cX6_arriveAll 122 = .ok (.iinc 4 1, 3) := by decide +kernel
theorem dX6_arriveAll_125 : decode cX6_arriveAll 125 = .ok (.goto (-68), 3) := by decide +kernel
theorem dX6_arriveAll_128 : decode cX6_arriveAll 128 = .ok (.aload_n 0, 1) := by decide +kernel
theorem dX6_arriveAll_129 : decode cX6_arriveAll 129 = .ok (.iload_n 3, 1) := by decide +kernel
theorem dX6_arriveAll_130 : decode cX6_arriveAll 130 = .ok (.putfield 81, 3) := by decide +kernel
theorem dX6_arriveAll_133 : decode cX6_arriveAll 133 = .ok (.iload_n 1, 1) := by decide +kernel
theorem dX6_arriveAll_134 : decode cX6_arriveAll 134 = .ok (.ireturn, 1) := by decide +kernel
set_option maxRecDepth 20000 in
theorem ggX6_pass_X6_between : GoodIn wsX6_pass wsX6_between := goodIn_r _ [7] (by decide +kernel) (by decide +kernel)
set_option maxRecDepth 20000 in
theorem gX6_pass_X6_between : GoodIn wsX6_pass (wsV RX6 71 RX6 yX6_between wsX6_between) := goodIn_app (goodIn_of _ (by decide +kernel)) ggX6_pass_X6_between
set_option maxRecDepth 20000 in
theorem ggX6_pass_X6_holds : GoodIn wsX6_pass wsX6_holds := goodIn_r _ [11, 12, 85, 86, 87, 88, 89, 90, 91, 92, 93, 94, 95, 96, 97, 98, 99, 100, 101, 102, 103, 104, 105, 106, 107, 108] (by decide +kernel) (by decide +kernel)
set_option maxRecDepth 20000 in
theorem gX6_pass_X6_holds : GoodIn wsX6_pass (wsV RX6 95 RX6 yX6_holds wsX6_holds) := goodIn_app (goodIn_of _ (by decide +kernel)) ggX6_pass_X6_holds
set_option maxRecDepth 20000 in
theorem ggX6_pass_X6_arriveAll : GoodIn wsX6_pass wsX6_arriveAll := goodIn_r _ [16, 17, 18, 1, 19, 20, 21, 22, 23, 6, 24, 25, 26, 27, 28, 29, 30, 31, 32, 33, 34, 35, 36, 37, 38, 39, 40, 41, 42, 43, 44, 45, 46, 47, 48, 49, 50, 51, 52, 53, 54, 55, 56, 57, 58, 59, 60, 61, 62, 63, 64, 65, 66, 67, 68, 69, 2, 70, 71, 72, 73, 74, 75, 76, 77, 78, 79, 80, 81, 82, 83, 84, 85, 86, 87, 88, 89, 90, 91, 92, 93, 94, 95, 96, 97, 98, 99, 100, 101, 102, 103, 104, 105, 106, 107, 108] (by decide +kernel) (by decide +kernel)
set_option maxRecDepth 20000 in
theorem gX6_pass_X6_arriveAll : GoodIn wsX6_pass (wsV RX6 145 RX6 yX6_arriveAll wsX6_arriveAll) := goodIn_app (goodIn_of _ (by decide +kernel)) ggX6_pass_X6_arriveAll
theorem dX6_pass_0 : decode cX6_pass 0 = .ok (.aload_n 0, 1) := by decide +kernel
theorem dX6_pass_1 : decode cX6_pass 1 = .ok (.aload_n 0, 1) := by decide +kernel
theorem dX6_pass_2 : decode cX6_pass 2 = .ok (.iload_n 1, 1) := by decide +kernel
theorem dX6_pass_3 : decode cX6_pass 3 = .ok (.iconst 1, 1) := by decide +kernel
theorem dX6_pass_4 : decode cX6_pass 4 = .ok (.bipush 100, 2) := by decide +kernel
theorem dX6_pass_6 : decode cX6_pass 6 = .ok (.invokevirtual 71, 3) := by decide +kernel
theorem dX6_pass_9 : decode cX6_pass 9 = .ok (.ifCond .eq 7, 3) := by decide +kernel
theorem dX6_pass_12 : decode cX6_pass 12 = .ok (.iconst 0, 1) := by decide +kernel
theorem dX6_pass_13 : decode cX6_pass 13 = .ok (.goto 4, 3) := by decide +kernel
theorem dX6_pass_16 : decode cX6_pass 16 = .ok (.iconst 1, 1) := by decide +kernel
theorem dX6_pass_17 : decode cX6_pass 17 = .ok (.invokevirtual 95, 3) := by decide +kernel
theorem dX6_pass_20 : decode cX6_pass 20 = .ok (.ifCond .eq 5, 3) := by decide +kernel
theorem dX6_pass_23 : decode cX6_pass 23 = .ok (.iconst (-1), 1) := by decide +kernel
theorem dX6_pass_24 : decode cX6_pass 24 = .ok (.ireturn, 1) := by decide +kernel
theorem dX6_pass_25 : decode cX6_pass 25 = .ok (.iconst 0, 1) := by decide +kernel
theorem dX6_pass_26 : decode cX6_pass 26 = .ok (.istore_n 2, 1) := by decide +kernel
theorem dX6_pass_27 : decode cX6_pass 27 = .ok (.iconst 0, 1) := by decide +kernel
theorem dX6_pass_28 : decode cX6_pass 28 = .ok (.istore_n 3, 1) := by decide +kernel
theorem dX6_pass_29 : decode cX6_pass 29 = .ok (.iload_n 3, 1) := by decide +kernel
theorem dX6_pass_30 : decode cX6_pass 30 = .ok (.iload_n 1, 1) := by decide +kernel
theorem dX6_pass_31 : decode cX6_pass 31 = .ok (.if_icmp .ge 70, 3) := by decide +kernel
theorem dX6_pass_34 : decode cX6_pass 34 = .ok (.aload_n 0, 1) := by decide +kernel
theorem dX6_pass_35 : decode cX6_pass 35 = .ok (.dup, 1) := by decide +kernel
theorem dX6_pass_36 : decode cX6_pass 36 = .ok (.getfield 84, 3) := by decide +kernel
theorem dX6_pass_39 : decode cX6_pass 39 = .ok (.iconst 1, 1) := by decide +kernel
theorem dX6_pass_40 : decode cX6_pass 40 = .ok (.iadd, 1) := by decide +kernel
theorem dX6_pass_41 : decode cX6_pass 41 = .ok (.putfield 84, 3) := by decide +kernel
theorem dX6_pass_44 : decode cX6_pass 44 = .ok (.iconst 0, 1) := by decide +kernel
theorem dX6_pass_45 : decode cX6_pass 45 = .ok (.istore 4, 2) := by decide +kernel
theorem dX6_pass_47 : decode cX6_pass 47 = .ok (.iload 4, 2) := by decide +kernel
theorem dX6_pass_49 : decode cX6_pass 49 = .ok (.bipush 6, 2) := by decide +kernel
theorem dX6_pass_51 : decode cX6_pass 51 = .ok (.if_icmp .ge 37, 3) := by decide +kernel
theorem dX6_pass_54 : decode cX6_pass 54 = .ok (.aload_n 0, 1) := by decide +kernel
theorem dX6_pass_55 : decode cX6_pass 55 = .ok (.getfield 64, 3) := by decide +kernel
theorem dX6_pass_58 : decode cX6_pass 58 = .ok (.iload 4, 2) := by decide +kernel
theorem dX6_pass_60 : decode cX6_pass 60 = .ok (.aload_n 0, 1) := by decide +kernel
theorem dX6_pass_61 : decode cX6_pass 61 = .ok (.getfield 84, 3) := by decide +kernel
theorem dX6_pass_64 : decode cX6_pass 64 = .ok (.bipush 90, 2) := by decide +kernel
theorem dX6_pass_66 : decode cX6_pass 66 = .ok (.irem, 1) := by decide +kernel
theorem dX6_pass_67 : decode cX6_pass 67 = .ok (.ifCond .ne 7, 3) := by decide +kernel
theorem dX6_pass_70 : decode cX6_pass 70 = .ok (.iconst 0, 1) := by decide +kernel
theorem dX6_pass_71 : decode cX6_pass 71 = .ok (.goto 10, 3) := by decide +kernel
theorem dX6_pass_74 : decode cX6_pass 74 = .ok (.aload_n 0, 1) := by decide +kernel
theorem dX6_pass_75 : decode cX6_pass 75 = .ok (.getfield 64, 3) := by decide +kernel
theorem dX6_pass_78 : decode cX6_pass 78 = .ok (.iload 4, 2) := by decide +kernel
theorem dX6_pass_80 : decode cX6_pass 80 = .ok (.iaload, 1) := by decide +kernel
theorem dX6_pass_81 : decode cX6_pass 81 = .ok (.iastore, 1) := by decide +kernel
theorem dX6_pass_82 : decode cX6_pass 82 = .ok (.iinc 4 1, 3) := by decide +kernel
theorem dX6_pass_85 : decode cX6_pass 85 = .ok (.goto (-38), 3) := by decide +kernel
theorem dX6_pass_88 : decode cX6_pass 88 = .ok (.iload_n 2, 1) := by decide +kernel
theorem dX6_pass_89 : decode cX6_pass 89 = .ok (.aload_n 0, 1) := by decide +kernel
theorem dX6_pass_90 : decode cX6_pass 90 = .ok (.invokevirtual 145, 3) := by decide +kernel
theorem dX6_pass_93 : decode cX6_pass 93 = .ok (.iadd, 1) := by decide +kernel
theorem dX6_pass_94 : decode cX6_pass 94 = .ok (.istore_n 2, 1) := by decide +kernel
theorem dX6_pass_95 : decode cX6_pass 95 = .ok (.iinc 3 1, 3) := by decide +kernel
theorem dX6_pass_98 : decode cX6_pass 98 = .ok (.goto (-69), 3) := by decide +kernel
theorem dX6_pass_101 : decode cX6_pass 101 = .ok (.iload_n 2, 1) := by decide +kernel
theorem dX6_pass_102 : decode cX6_pass 102 = .ok (.ireturn, 1) := by decide +kernel
set_option maxRecDepth 20000 in
theorem ggX6_today_X6_plain : GoodIn wsX6_today wsX6_plain := goodIn_r _ [6, 7, 8, 9, 10, 11, 12, 13, 14, 15, 16, 17, 18, 19, 20, 21, 22, 23, 24, 25, 26, 27, 28, 29, 30, 31] (by decide +kernel) (by decide +kernel)
set_option maxRecDepth 20000 in
theorem gX6_today_X6_plain : GoodIn wsX6_today (wsV RX6 149 RX6 yX6_plain wsX6_plain) := goodIn_app (goodIn_of _ (by decide +kernel)) ggX6_today_X6_plain
theorem dX6_today_0 : decode cX6_today 0 = .ok (.aload_n 0, 1) := by decide +kernel
theorem dX6_today_1 : decode cX6_today 1 = .ok (.aload_n 0, 1) := by decide +kernel
theorem dX6_today_2 : decode cX6_today 2 = .ok (.getfield 84, 3) := by decide +kernel
theorem dX6_today_5 : decode cX6_today 5 = .ok (.invokevirtual 149, 3) := by decide +kernel
theorem dX6_today_8 : decode cX6_today 8 = .ok (.ireturn, 1) := by decide +kernel
set_option maxRecDepth 20000 in
theorem ggX6_owes_X6_isHouse : GoodIn wsX6_owes wsX6_isHouse := goodIn_r _ [6, 7, 8, 9, 5, 10] (by decide +kernel) (by decide +kernel)
set_option maxRecDepth 20000 in
theorem gX6_owes_X6_isHouse : GoodIn wsX6_owes (wsV RX6 91 RX6 yX6_isHouse wsX6_isHouse) := goodIn_app (goodIn_of _ (by decide +kernel)) ggX6_owes_X6_isHouse
set_option maxRecDepth 20000 in
theorem ggX6_owes_X6_holds : GoodIn wsX6_owes wsX6_holds := goodIn_r _ [14, 15, 16, 17, 18, 19, 20, 21, 22, 23, 24, 25, 26, 27, 28, 29, 30, 31, 32, 33, 34, 35, 36, 37, 38, 39] (by decide +kernel) (by decide +kernel)
set_option maxRecDepth 20000 in
theorem gX6_owes_X6_holds : GoodIn wsX6_owes (wsV RX6 95 RX6 yX6_holds wsX6_holds) := goodIn_app (goodIn_of _ (by decide +kernel)) ggX6_owes_X6_holds
theorem dX6_owes_0 : decode cX6_owes 0 = .ok (.aload_n 0, 1) := by decide +kernel
theorem dX6_owes_1 : decode cX6_owes 1 = .ok (.aload_n 0, 1) := by decide +kernel
theorem dX6_owes_2 : decode cX6_owes 2 = .ok (.iload_n 1, 1) := by decide +kernel
theorem dX6_owes_3 : decode cX6_owes 3 = .ok (.invokevirtual 91, 3) := by decide +kernel
theorem dX6_owes_6 : decode cX6_owes 6 = .ok (.ifCond .eq 15, 3) := by decide +kernel
theorem dX6_owes_9 : decode cX6_owes 9 = .ok (.aload_n 0, 1) := by decide +kernel
theorem dX6_owes_10 : decode cX6_owes 10 = .ok (.iload_n 2, 1) := by decide +kernel
theorem dX6_owes_11 : decode cX6_owes 11 = .ok (.invokevirtual 91, 3) := by decide +kernel
theorem dX6_owes_14 : decode cX6_owes 14 = .ok (.ifCond .eq 7, 3) := by decide +kernel
theorem dX6_owes_17 : decode cX6_owes 17 = .ok (.iconst 0, 1) := by decide +kernel
theorem dX6_owes_18 : decode cX6_owes 18 = .ok (.goto 4, 3) := by decide +kernel
theorem dX6_owes_21 : decode cX6_owes 21 = .ok (.iconst 1, 1) := by decide +kernel
theorem dX6_owes_22 : decode cX6_owes 22 = .ok (.invokevirtual 95, 3) := by decide +kernel
theorem dX6_owes_25 : decode cX6_owes 25 = .ok (.ifCond .eq 7, 3) := by decide +kernel
theorem dX6_owes_28 : decode cX6_owes 28 = .ok (.iconst (-1), 1) := by decide +kernel
theorem dX6_owes_29 : decode cX6_owes 29 = .ok (.goto 14, 3) := by decide +kernel
theorem dX6_owes_32 : decode cX6_owes 32 = .ok (.aload_n 0, 1) := by decide +kernel
theorem dX6_owes_33 : decode cX6_owes 33 = .ok (.getfield 61, 3) := by decide +kernel
theorem dX6_owes_36 : decode cX6_owes 36 = .ok (.bipush 6, 2) := by decide +kernel
theorem dX6_owes_38 : decode cX6_owes 38 = .ok (.iload_n 1, 1) := by decide +kernel
theorem dX6_owes_39 : decode cX6_owes 39 = .ok (.imul, 1) := by decide +kernel
theorem dX6_owes_40 : decode cX6_owes 40 = .ok (.iload_n 2, 1) := by decide +kernel
theorem dX6_owes_41 : decode cX6_owes 41 = .ok (.iadd, 1) := by decide +kernel
theorem dX6_owes_42 : decode cX6_owes 42 = .ok (.iaload, 1) := by decide +kernel
theorem dX6_owes_43 : decode cX6_owes 43 = .ok (.ireturn, 1) := by decide +kernel
set_option maxRecDepth 20000 in
theorem ggX6_settle_X6_plain : GoodIn wsX6_settle wsX6_plain := goodIn_r _ [6, 7, 8, 9, 10, 11, 12, 13, 14, 15, 16, 17, 18, 19, 20, 21, 22, 23, 24, 25, 26, 27, 28, 29, 30, 31] (by decide +kernel) (by decide +kernel)
set_option maxRecDepth 20000 in
theorem gX6_settle_X6_plain : GoodIn wsX6_settle (wsV RX6 149 RX6 yX6_plain wsX6_plain) := goodIn_app (goodIn_of _ (by decide +kernel)) ggX6_settle_X6_plain
theorem dX6_settle_0 : decode cX6_settle 0 = .ok (.iconst 0, 1) := by decide +kernel
theorem dX6_settle_1 : decode cX6_settle 1 = .ok (.istore_n 1, 1) := by decide +kernel
theorem dX6_settle_2 : decode cX6_settle 2 = .ok (.iconst 0, 1) := by decide +kernel
theorem dX6_settle_3 : decode cX6_settle 3 = .ok (.istore_n 2, 1) := by decide +kernel
theorem dX6_settle_4 : decode cX6_settle 4 = .ok (.iload_n 2, 1) := by decide +kernel
theorem dX6_settle_5 : decode cX6_settle 5 = .ok (.bipush 36, 2) := by decide +kernel
theorem dX6_settle_7 : decode cX6_settle 7 = .ok (.if_icmp .ge 33, 3) := by decide +kernel
theorem dX6_settle_10 : decode cX6_settle 10 = .ok (.iload_n 1, 1) := by decide +kernel
theorem dX6_settle_11 : decode cX6_settle 11 = .ok (.aload_n 0, 1) := by decide +kernel
theorem dX6_settle_12 : decode cX6_settle 12 = .ok (.getfield 61, 3) := by decide +kernel
theorem dX6_settle_15 : decode cX6_settle 15 = .ok (.iload_n 2, 1) := by decide +kernel
theorem dX6_settle_16 : decode cX6_settle 16 = .ok (.iaload, 1) := by decide +kernel
theorem dX6_settle_17 : decode cX6_settle 17 = .ok (.ifCond .le 7, 3) := by decide +kernel
theorem dX6_settle_20 : decode cX6_settle 20 = .ok (.iconst 1, 1) := by decide +kernel
theorem dX6_settle_21 : decode cX6_settle 21 = .ok (.goto 4, 3) := by decide +kernel
theorem dX6_settle_24 : decode cX6_settle 24 = .ok (.iconst 0, 1) := by decide +kernel
theorem dX6_settle_25 : decode cX6_settle 25 = .ok (.iadd, 1) := by decide +kernel
theorem dX6_settle_26 : decode cX6_settle 26 = .ok (.istore_n 1, 1) := by decide +kernel
theorem dX6_settle_27 : decode cX6_settle 27 = .ok (.aload_n 0, 1) := by decide +kernel
theorem dX6_settle_28 : decode cX6_settle 28 = .ok (.getfield 61, 3) := by decide +kernel
theorem dX6_settle_31 : decode cX6_settle 31 = .ok (.iload_n 2, 1) := by decide +kernel
theorem dX6_settle_32 : decode cX6_settle 32 = .ok (.iconst 0, 1) := by decide +kernel
theorem dX6_settle_33 : decode cX6_settle 33 = .ok (.iastore, 1) := by decide +kernel
theorem dX6_settle_34 : decode cX6_settle 34 = .ok (.iinc 2 1, 3) := by decide +kernel
theorem dX6_settle_37 : decode cX6_settle 37 = .ok (.goto (-33), 3) := by decide +kernel
theorem dX6_settle_40 : decode cX6_settle 40 = .ok (.aload_n 0, 1) := by decide +kernel
theorem dX6_settle_41 : decode cX6_settle 41 = .ok (.iload_n 1, 1) := by decide +kernel
theorem dX6_settle_42 : decode cX6_settle 42 = .ok (.invokevirtual 149, 3) := by decide +kernel
theorem dX6_settle_45 : decode cX6_settle 45 = .ok (.ireturn, 1) := by decide +kernel
set_option maxRecDepth 20000 in
theorem ggX6_quota_X6_isHouse : GoodIn wsX6_quota wsX6_isHouse := goodIn_r _ [6, 7, 8, 9, 5, 10] (by decide +kernel) (by decide +kernel)
set_option maxRecDepth 20000 in
theorem gX6_quota_X6_isHouse : GoodIn wsX6_quota (wsV RX6 91 RX6 yX6_isHouse wsX6_isHouse) := goodIn_app (goodIn_of _ (by decide +kernel)) ggX6_quota_X6_isHouse
set_option maxRecDepth 20000 in
theorem ggX6_quota_X6_holds : GoodIn wsX6_quota wsX6_holds := goodIn_r _ [14, 15, 16, 17, 18, 19, 20, 21, 22, 23, 24, 25, 26, 27, 28, 29, 30, 31, 32, 33, 34, 35, 36, 37, 38, 39] (by decide +kernel) (by decide +kernel)
set_option maxRecDepth 20000 in
theorem gX6_quota_X6_holds : GoodIn wsX6_quota (wsV RX6 95 RX6 yX6_holds wsX6_holds) := goodIn_app (goodIn_of _ (by decide +kernel)) ggX6_quota_X6_holds
theorem dX6_quota_0 : decode cX6_quota 0 = .ok (.aload_n 0, 1) := by decide +kernel
theorem dX6_quota_1 : decode cX6_quota 1 = .ok (.aload_n 0, 1) := by decide +kernel
theorem dX6_quota_2 : decode cX6_quota 2 = .ok (.iload_n 1, 1) := by decide +kernel
theorem dX6_quota_3 : decode cX6_quota 3 = .ok (.invokevirtual 91, 3) := by decide +kernel
theorem dX6_quota_6 : decode cX6_quota 6 = .ok (.ifCond .eq 7, 3) := by decide +kernel
theorem dX6_quota_9 : decode cX6_quota 9 = .ok (.iconst 0, 1) := by decide +kernel
theorem dX6_quota_10 : decode cX6_quota 10 = .ok (.goto 4, 3) := by decide +kernel
theorem dX6_quota_13 : decode cX6_quota 13 = .ok (.iconst 1, 1) := by decide +kernel
theorem dX6_quota_14 : decode cX6_quota 14 = .ok (.invokevirtual 95, 3) := by decide +kernel
theorem dX6_quota_17 : decode cX6_quota 17 = .ok (.ifCond .eq 7, 3) := by decide +kernel
theorem dX6_quota_20 : decode cX6_quota 20 = .ok (.iconst (-1), 1) := by decide +kernel
theorem dX6_quota_21 : decode cX6_quota 21 = .ok (.goto 9, 3) := by decide +kernel
theorem dX6_quota_24 : decode cX6_quota 24 = .ok (.aload_n 0, 1) := by decide +kernel
theorem dX6_quota_25 : decode cX6_quota 25 = .ok (.getfield 64, 3) := by decide +kernel
theorem dX6_quota_28 : decode cX6_quota 28 = .ok (.iload_n 1, 1) := by decide +kernel
theorem dX6_quota_29 : decode cX6_quota 29 = .ok (.iaload, 1) := by decide +kernel
theorem dX6_quota_30 : decode cX6_quota 30 = .ok (.ireturn, 1) := by decide +kernel
theorem dJ9_abs_0f7a4_0 : decode cJ9_abs_0f7a4 0 = .ok (.iload_n 0, 1) := by decide +kernel
theorem dJ9_abs_0f7a4_1 : decode cJ9_abs_0f7a4 1 = .ok (.ifCond .ge 8, 3) := by decide +kernel
theorem dJ9_abs_0f7a4_4 : decode cJ9_abs_0f7a4 4 = .ok (.iload_n 0, 1) := by decide +kernel
theorem dJ9_abs_0f7a4_5 : decode cJ9_abs_0f7a4 5 = .ok (.ineg, 1) := by decide +kernel
theorem dJ9_abs_0f7a4_6 : decode cJ9_abs_0f7a4 6 = .ok (.goto 4, 3) := by decide +kernel
theorem dJ9_abs_0f7a4_9 : decode cJ9_abs_0f7a4 9 = .ok (.iload_n 0, 1) := by decide +kernel
theorem dJ9_abs_0f7a4_10 : decode cJ9_abs_0f7a4 10 = .ok (.ireturn, 1) := by decide +kernel
theorem dJ9_max_7cf53_0 : decode cJ9_max_7cf53 0 = .ok (.iload_n 0, 1) := by decide +kernel
theorem dJ9_max_7cf53_1 : decode cJ9_max_7cf53 1 = .ok (.iload_n 1, 1) := by decide +kernel
theorem dJ9_max_7cf53_2 : decode cJ9_max_7cf53 2 = .ok (.if_icmp .lt 7, 3) := by decide +kernel
theorem dJ9_max_7cf53_5 : decode cJ9_max_7cf53 5 = .ok (.iload_n 0, 1) := by decide +kernel
theorem dJ9_max_7cf53_6 : decode cJ9_max_7cf53 6 = .ok (.goto 4, 3) := by decide +kernel
theorem dJ9_max_7cf53_9 : decode cJ9_max_7cf53 9 = .ok (.iload_n 1, 1) := by decide +kernel
theorem dJ9_max_7cf53_10 : decode cJ9_max_7cf53 10 = .ok (.ireturn, 1) := by decide +kernel
theorem dJ9_min_7cf53_0 : decode cJ9_min_7cf53 0 = .ok (.iload_n 0, 1) := by decide +kernel
theorem dJ9_min_7cf53_1 : decode cJ9_min_7cf53 1 = .ok (.iload_n 1, 1) := by decide +kernel
theorem dJ9_min_7cf53_2 : decode cJ9_min_7cf53 2 = .ok (.if_icmp .gt 7, 3) := by decide +kernel
theorem dJ9_min_7cf53_5 : decode cJ9_min_7cf53 5 = .ok (.iload_n 0, 1) := by decide +kernel
theorem dJ9_min_7cf53_6 : decode cJ9_min_7cf53 6 = .ok (.goto 4, 3) := by decide +kernel
theorem dJ9_min_7cf53_9 : decode cJ9_min_7cf53 9 = .ok (.iload_n 1, 1) := by decide +kernel
theorem dJ9_min_7cf53_10 : decode cJ9_min_7cf53 10 = .ok (.ireturn, 1) := by decide +kernel
set_option maxRecDepth 20000 in
theorem ggL_addCopy_X5_addCopy : GoodIn wsL_addCopy wsX5_addCopy := goodIn_ca (goodIn_ca (goodIn_r _ [7, 8, 9, 10, 11, 12, 13, 14, 15, 16, 17, 18, 19, 6, 20, 21, 22, 23, 24, 25, 26, 27, 28, 29, 30, 31, 32, 33, 34, 35, 36, 37, 38, 39, 40, 41, 42, 43, 44, 45, 46, 47, 48, 49, 50, 51, 52, 53, 54, 55, 56, 57, 58, 59, 60, 61, 62, 63, 64, 65, 66, 67, 68, 69, 70, 71, 72, 73, 74, 75, 76, 77, 78, 79, 80, 81, 82, 83, 84, 85, 86, 87, 88, 89, 90, 91, 92, 93, 94, 95, 96, 97, 98, 99, 100] (by decide +kernel) (by decide +kernel)) (goodIn_sub (fun _ h => List.mem_cons_of_mem _ (List.mem_append_left _ (List.mem_append_right _ h))) (by decide +kernel))) (goodIn_sub (fun _ h => List.mem_cons_of_mem _ (List.mem_append_right _ h)) (by decide +kernel))
set_option maxRecDepth 20000 in
theorem gL_addCopy_X5_addCopy : GoodIn wsL_addCopy (wsV RL 7 RX5 yX5_addCopy wsX5_addCopy) := goodIn_app (goodIn_of _ (by decide +kernel)) ggL_addCopy_X5_addCopy
theorem dL_addCopy_0 : decode cL_addCopy 0 = .ok (.aload_n 3, 1) := by decide +kernel
theorem dL_addCopy_1 : decode cL_addCopy 1 = .ok (.iconst 0, 1) := by decide +kernel
theorem dL_addCopy_2 : decode cL_addCopy 2 = .ok (.aload_n 0, 1) := by decide +kernel
theorem dL_addCopy_3 : decode cL_addCopy 3 = .ok (.iload_n 1, 1) := by decide +kernel
theorem dL_addCopy_4 : decode cL_addCopy 4 = .ok (.iload_n 2, 1) := by decide +kernel
theorem dL_addCopy_5 : decode cL_addCopy 5 = .ok (.invokevirtual 7, 3) := by decide +kernel
theorem dL_addCopy_8 : decode cL_addCopy 8 = .ok (.i2l, 1) := by decide +kernel
theorem dL_addCopy_9 : decode cL_addCopy 9 = .ok (.lastore, 1) := by decide +kernel
theorem dL_addCopy_10 : decode cL_addCopy 10 = .ok (.goto 11, 3) := by decide +kernel
theorem dL_addCopy_13 : decode cL_addCopy 13 = .ok (.astore 4, 2) := by decide +kernel
theorem dL_addCopy_15 : decode cL_addCopy 15 = .ok (.iconst 1, 1) := by decide +kernel
theorem dL_addCopy_16 : decode cL_addCopy 16 = .ok (.ireturn, 1) := by decide +kernel
theorem dL_addCopy_17 : decode cL_addCopy 17 = .ok (.astore 4, 2) := by decide +kernel
theorem dL_addCopy_19 : decode cL_addCopy 19 = .ok (.iconst 2, 1) := by decide +kernel
theorem dL_addCopy_20 : decode cL_addCopy 20 = .ok (.ireturn, 1) := by decide +kernel
theorem dL_addCopy_21 : decode cL_addCopy 21 = .ok (.iconst 0, 1) := by decide +kernel
theorem dL_addCopy_22 : decode cL_addCopy 22 = .ok (.ireturn, 1) := by decide +kernel
set_option maxRecDepth 20000 in
theorem ggL_inHandsOf_X5_inHandsOf : GoodIn wsL_inHandsOf wsX5_inHandsOf := goodIn_ca (goodIn_r _ [6, 7, 8, 9, 10, 5, 11, 12, 13, 14, 15, 16, 17, 18, 19, 20, 21, 22, 23, 24, 25, 26, 27, 28, 29] (by decide +kernel) (by decide +kernel)) (goodIn_sub (fun _ h => List.mem_cons_of_mem _ (List.mem_append_right _ h)) (by decide +kernel))
set_option maxRecDepth 20000 in
theorem gL_inHandsOf_X5_inHandsOf : GoodIn wsL_inHandsOf (wsV RL 17 RX5 yX5_inHandsOf wsX5_inHandsOf) := goodIn_app (goodIn_of _ (by decide +kernel)) ggL_inHandsOf_X5_inHandsOf
theorem dL_inHandsOf_0 : decode cL_inHandsOf 0 = .ok (.aload_n 2, 1) := by decide +kernel
theorem dL_inHandsOf_1 : decode cL_inHandsOf 1 = .ok (.iconst 0, 1) := by decide +kernel
theorem dL_inHandsOf_2 : decode cL_inHandsOf 2 = .ok (.aload_n 0, 1) := by decide +kernel
theorem dL_inHandsOf_3 : decode cL_inHandsOf 3 = .ok (.iload_n 1, 1) := by decide +kernel
theorem dL_inHandsOf_4 : decode cL_inHandsOf 4 = .ok (.invokevirtual 17, 3) := by decide +kernel
theorem dL_inHandsOf_7 : decode cL_inHandsOf 7 = .ok (.i2l, 1) := by decide +kernel
theorem dL_inHandsOf_8 : decode cL_inHandsOf 8 = .ok (.lastore, 1) := by decide +kernel
theorem dL_inHandsOf_9 : decode cL_inHandsOf 9 = .ok (.goto 6, 3) := by decide +kernel
theorem dL_inHandsOf_12 : decode cL_inHandsOf 12 = .ok (.astore_n 3, 1) := by decide +kernel
theorem dL_inHandsOf_13 : decode cL_inHandsOf 13 = .ok (.iconst 1, 1) := by decide +kernel
theorem dL_inHandsOf_14 : decode cL_inHandsOf 14 = .ok (.ireturn, 1) := by decide +kernel
theorem dL_inHandsOf_15 : decode cL_inHandsOf 15 = .ok (.iconst 0, 1) := by decide +kernel
theorem dL_inHandsOf_16 : decode cL_inHandsOf 16 = .ok (.ireturn, 1) := by decide +kernel
set_option maxRecDepth 20000 in
theorem ggL_isFree_X5_isFree : GoodIn wsL_isFree wsX5_isFree := goodIn_ca (goodIn_r _ [6, 7, 8, 9, 5, 10, 11, 12, 13, 14, 15, 16, 17, 18, 19, 20, 21, 22, 23, 24, 25, 26, 27, 28, 29, 30, 31, 32, 33, 34, 35, 36, 37, 38, 39, 40, 41] (by decide +kernel) (by decide +kernel)) (goodIn_sub (fun _ h => List.mem_cons_of_mem _ (List.mem_append_right _ h)) (by decide +kernel))
set_option maxRecDepth 20000 in
theorem gL_isFree_X5_isFree : GoodIn wsL_isFree (wsV RL 23 RX5 yX5_isFree wsX5_isFree) := goodIn_app (goodIn_of _ (by decide +kernel)) ggL_isFree_X5_isFree
theorem dL_isFree_0 : decode cL_isFree 0 = .ok (.aload_n 2, 1) := by decide +kernel
theorem dL_isFree_1 : decode cL_isFree 1 = .ok (.iconst 0, 1) := by decide +kernel
theorem dL_isFree_2 : decode cL_isFree 2 = .ok (.aload_n 0, 1) := by decide +kernel
theorem dL_isFree_3 : decode cL_isFree 3 = .ok (.iload_n 1, 1) := by decide +kernel
theorem dL_isFree_4 : decode cL_isFree 4 = .ok (.invokevirtual 23, 3) := by decide +kernel
theorem dL_isFree_7 : decode cL_isFree 7 = .ok (.ifCond .eq 7, 3) := by decide +kernel
theorem dL_isFree_10 : decode cL_isFree 10 = .ok (.lconst 1, 1) := by decide +kernel
theorem dL_isFree_11 : decode cL_isFree 11 = .ok (.goto 4, 3) := by decide +kernel
theorem dL_isFree_14 : decode cL_isFree 14 = .ok (.lconst 0, 1) := by decide +kernel
theorem dL_isFree_15 : decode cL_isFree 15 = .ok (.lastore, 1) := by decide +kernel
theorem dL_isFree_16 : decode cL_isFree 16 = .ok (.goto 6, 3) := by decide +kernel
theorem dL_isFree_19 : decode cL_isFree 19 = .ok (.astore_n 3, 1) := by decide +kernel
theorem dL_isFree_20 : decode cL_isFree 20 = .ok (.iconst 1, 1) := by decide +kernel
theorem dL_isFree_21 : decode cL_isFree 21 = .ok (.ireturn, 1) := by decide +kernel
theorem dL_isFree_22 : decode cL_isFree 22 = .ok (.iconst 0, 1) := by decide +kernel
theorem dL_isFree_23 : decode cL_isFree 23 = .ok (.ireturn, 1) := by decide +kernel
set_option maxRecDepth 20000 in
theorem ggL_listed_X5_listed : GoodIn wsL_listed wsX5_listed := goodIn_ca (goodIn_r _ [6, 7, 8, 9, 10, 5, 11, 12, 13, 14, 15, 16, 17, 18, 19, 20, 21, 22, 23, 24, 25, 26, 27, 28, 29] (by decide +kernel) (by decide +kernel)) (goodIn_sub (fun _ h => List.mem_cons_of_mem _ (List.mem_append_right _ h)) (by decide +kernel))
set_option maxRecDepth 20000 in
theorem gL_listed_X5_listed : GoodIn wsL_listed (wsV RL 27 RX5 yX5_listed wsX5_listed) := goodIn_app (goodIn_of _ (by decide +kernel)) ggL_listed_X5_listed
theorem dL_listed_0 : decode cL_listed 0 = .ok (.aload_n 2, 1) := by decide +kernel
theorem dL_listed_1 : decode cL_listed 1 = .ok (.iconst 0, 1) := by decide +kernel
theorem dL_listed_2 : decode cL_listed 2 = .ok (.aload_n 0, 1) := by decide +kernel
theorem dL_listed_3 : decode cL_listed 3 = .ok (.iload_n 1, 1) := by decide +kernel
theorem dL_listed_4 : decode cL_listed 4 = .ok (.invokevirtual 27, 3) := by decide +kernel
theorem dL_listed_7 : decode cL_listed 7 = .ok (.i2l, 1) := by decide +kernel
theorem dL_listed_8 : decode cL_listed 8 = .ok (.lastore, 1) := by decide +kernel
theorem dL_listed_9 : decode cL_listed 9 = .ok (.goto 6, 3) := by decide +kernel
theorem dL_listed_12 : decode cL_listed 12 = .ok (.astore_n 3, 1) := by decide +kernel
theorem dL_listed_13 : decode cL_listed 13 = .ok (.iconst 1, 1) := by decide +kernel
theorem dL_listed_14 : decode cL_listed 14 = .ok (.ireturn, 1) := by decide +kernel
theorem dL_listed_15 : decode cL_listed 15 = .ok (.iconst 0, 1) := by decide +kernel
theorem dL_listed_16 : decode cL_listed 16 = .ok (.ireturn, 1) := by decide +kernel
set_option maxRecDepth 20000 in
theorem ggL_harm_X5_harm : GoodIn wsL_harm wsX5_harm := goodIn_ca (goodIn_ca (goodIn_r _ [7, 8, 9, 10, 11, 12, 13, 14, 6, 15, 16, 17, 18, 19, 20, 21, 22, 23, 24, 25, 26, 27, 28, 29, 30, 31, 32, 33, 34, 35, 36, 37, 38, 39] (by decide +kernel) (by decide +kernel)) (goodIn_sub (fun _ h => List.mem_cons_of_mem _ (List.mem_append_left _ (List.mem_append_right _ h))) (by decide +kernel))) (goodIn_sub (fun _ h => List.mem_cons_of_mem _ (List.mem_append_right _ h)) (by decide +kernel))
set_option maxRecDepth 20000 in
theorem gL_harm_X5_harm : GoodIn wsL_harm (wsV RL 30 RX5 yX5_harm wsX5_harm) := goodIn_app (goodIn_of _ (by decide +kernel)) ggL_harm_X5_harm
theorem dL_harm_0 : decode cL_harm 0 = .ok (.aload_n 2, 1) := by decide +kernel
theorem dL_harm_1 : decode cL_harm 1 = .ok (.iconst 0, 1) := by decide +kernel
theorem dL_harm_2 : decode cL_harm 2 = .ok (.aload_n 0, 1) := by decide +kernel
theorem dL_harm_3 : decode cL_harm 3 = .ok (.iload_n 1, 1) := by decide +kernel
theorem dL_harm_4 : decode cL_harm 4 = .ok (.invokevirtual 30, 3) := by decide +kernel
theorem dL_harm_7 : decode cL_harm 7 = .ok (.i2l, 1) := by decide +kernel
theorem dL_harm_8 : decode cL_harm 8 = .ok (.lastore, 1) := by decide +kernel
theorem dL_harm_9 : decode cL_harm 9 = .ok (.goto 9, 3) := by decide +kernel
theorem dL_harm_12 : decode cL_harm 12 = .ok (.astore_n 3, 1) := by decide +kernel
theorem dL_harm_13 : decode cL_harm 13 = .ok (.iconst 1, 1) := by decide +kernel
theorem dL_harm_14 : decode cL_harm 14 = .ok (.ireturn, 1) := by decide +kernel
theorem dL_harm_15 : decode cL_harm 15 = .ok (.astore_n 3, 1) := by decide +kernel
theorem dL_harm_16 : decode cL_harm 16 = .ok (.iconst 2, 1) := by decide +kernel
theorem dL_harm_17 : decode cL_harm 17 = .ok (.ireturn, 1) := by decide +kernel
theorem dL_harm_18 : decode cL_harm 18 = .ok (.iconst 0, 1) := by decide +kernel
theorem dL_harm_19 : decode cL_harm 19 = .ok (.ireturn, 1) := by decide +kernel
set_option maxRecDepth 20000 in
theorem ggL_look_X5_look : GoodIn wsL_look wsX5_look := goodIn_ca (goodIn_ca (goodIn_r _ [7, 8, 9, 10, 11, 12, 13, 6, 14, 15, 16, 17, 18, 19, 20, 21, 22, 23, 24, 25, 26, 27, 28, 29, 30, 31, 32, 33, 34, 35, 36, 37, 38, 39, 40, 41, 42, 43, 44, 45, 46, 47, 48, 49, 50, 51, 52, 53, 54, 55, 56, 57] (by decide +kernel) (by decide +kernel)) (goodIn_sub (fun _ h => List.mem_cons_of_mem _ (List.mem_append_left _ (List.mem_append_right _ h))) (by decide +kernel))) (goodIn_sub (fun _ h => List.mem_cons_of_mem _ (List.mem_append_right _ h)) (by decide +kernel))
set_option maxRecDepth 20000 in
theorem gL_look_X5_look : GoodIn wsL_look (wsV RL 33 RX5 yX5_look wsX5_look) := goodIn_app (goodIn_of _ (by decide +kernel)) ggL_look_X5_look
theorem dL_look_0 : decode cL_look 0 = .ok (.aload_n 2, 1) := by decide +kernel
theorem dL_look_1 : decode cL_look 1 = .ok (.iconst 0, 1) := by decide +kernel
theorem dL_look_2 : decode cL_look 2 = .ok (.aload_n 0, 1) := by decide +kernel
theorem dL_look_3 : decode cL_look 3 = .ok (.iload_n 1, 1) := by decide +kernel
theorem dL_look_4 : decode cL_look 4 = .ok (.invokevirtual 33, 3) := by decide +kernel
theorem dL_look_7 : decode cL_look 7 = .ok (.i2l, 1) := by decide +kernel
theorem dL_look_8 : decode cL_look 8 = .ok (.lastore, 1) := by decide +kernel
theorem dL_look_9 : decode cL_look 9 = .ok (.goto 9, 3) := by decide +kernel
theorem dL_look_12 : decode cL_look 12 = .ok (.astore_n 3, 1) := by decide +kernel
theorem dL_look_13 : decode cL_look 13 = .ok (.iconst 1, 1) := by decide +kernel
theorem dL_look_14 : decode cL_look 14 = .ok (.ireturn, 1) := by decide +kernel
theorem dL_look_15 : decode cL_look 15 = .ok (.astore_n 3, 1) := by decide +kernel
theorem dL_look_16 : decode cL_look 16 = .ok (.iconst 2, 1) := by decide +kernel
theorem dL_look_17 : decode cL_look 17 = .ok (.ireturn, 1) := by decide +kernel
theorem dL_look_18 : decode cL_look 18 = .ok (.iconst 0, 1) := by decide +kernel
theorem dL_look_19 : decode cL_look 19 = .ok (.ireturn, 1) := by decide +kernel
set_option maxRecDepth 20000 in
theorem ggL_mend_X5_mend : GoodIn wsL_mend wsX5_mend := goodIn_ca (goodIn_ca (goodIn_r _ [7, 8, 9, 10, 11, 12, 13, 14, 6, 15, 16, 17, 18, 19, 20, 21, 22, 23, 24, 25, 26, 27, 28, 29, 30, 31, 32, 33, 34, 35, 36, 37, 38, 39, 40, 41, 42, 43, 44, 45, 46, 47, 48, 49, 50, 51, 52, 53, 54, 55, 56, 57, 58, 59, 60, 61, 62, 63, 64, 65, 66, 67, 68, 69, 70, 71, 72, 73, 74, 75, 76, 77, 78, 79, 80, 81, 82] (by decide +kernel) (by decide +kernel)) (goodIn_sub (fun _ h => List.mem_cons_of_mem _ (List.mem_append_left _ (List.mem_append_right _ h))) (by decide +kernel))) (goodIn_sub (fun _ h => List.mem_cons_of_mem _ (List.mem_append_right _ h)) (by decide +kernel))
set_option maxRecDepth 20000 in
theorem gL_mend_X5_mend : GoodIn wsL_mend (wsV RL 36 RX5 yX5_mend wsX5_mend) := goodIn_app (goodIn_of _ (by decide +kernel)) ggL_mend_X5_mend
theorem dL_mend_0 : decode cL_mend 0 = .ok (.aload_n 0, 1) := by decide +kernel
theorem dL_mend_1 : decode cL_mend 1 = .ok (.iload_n 1, 1) := by decide +kernel
theorem dL_mend_2 : decode cL_mend 2 = .ok (.invokevirtual 36, 3) := by decide +kernel
theorem dL_mend_5 : decode cL_mend 5 = .ok (.goto 9, 3) := by decide +kernel
theorem dL_mend_8 : decode cL_mend 8 = .ok (.astore_n 2, 1) := by decide +kernel
theorem dL_mend_9 : decode cL_mend 9 = .ok (.iconst 1, 1) := by decide +kernel
theorem dL_mend_10 : decode cL_mend 10 = .ok (.ireturn, 1) := by decide +kernel
theorem dL_mend_11 : decode cL_mend 11 = .ok (.astore_n 2, 1) := by decide +kernel
theorem dL_mend_12 : decode cL_mend 12 = .ok (.iconst 2, 1) := by decide +kernel
theorem dL_mend_13 : decode cL_mend 13 = .ok (.ireturn, 1) := by decide +kernel
theorem dL_mend_14 : decode cL_mend 14 = .ok (.iconst 0, 1) := by decide +kernel
theorem dL_mend_15 : decode cL_mend 15 = .ok (.ireturn, 1) := by decide +kernel
set_option maxRecDepth 20000 in
theorem ggL_request_X5_request : GoodIn wsL_request wsX5_request := goodIn_ca (goodIn_ca (goodIn_r _ [7, 8, 9, 10, 11, 12, 13, 14, 15, 16, 17, 18, 6, 19, 20, 21, 22, 23, 24, 25, 26, 27, 28, 29, 30, 31, 32, 33, 34, 35, 36, 37, 38, 39, 40, 41, 42, 43, 44, 45, 46, 47, 48, 49, 50, 51, 52, 53, 54, 55, 56, 57, 58, 59, 60, 61, 62, 63, 64, 65, 66, 67, 68, 69, 70, 71, 72, 73, 74, 75, 76, 77, 78, 79, 80, 81, 82, 83, 84, 85, 86, 87, 88, 89, 90, 91, 92, 93, 94, 95, 96, 97, 98, 99, 100, 101, 102, 103, 104, 105, 106, 107, 108, 109, 110, 111, 112, 113, 114, 115, 116, 117, 118, 119] (by decide +kernel) (by decide +kernel)) (goodIn_sub (fun _ h => List.mem_cons_of_mem _ (List.mem_append_left _ (List.mem_append_right _ h))) (by decide +kernel))) (goodIn_sub (fun _ h => List.mem_cons_of_mem _ (List.mem_append_right _ h)) (by decide +kernel))
set_option maxRecDepth 20000 in
theorem gL_request_X5_request : GoodIn wsL_request (wsV RL 40 RX5 yX5_request wsX5_request) := goodIn_app (goodIn_of _ (by decide +kernel)) ggL_request_X5_request
theorem dL_request_0 : decode cL_request 0 = .ok (.aload_n 3, 1) := by decide +kernel
theorem dL_request_1 : decode cL_request 1 = .ok (.iconst 0, 1) := by decide +kernel
theorem dL_request_2 : decode cL_request 2 = .ok (.aload_n 0, 1) := by decide +kernel
theorem dL_request_3 : decode cL_request 3 = .ok (.iload_n 1, 1) := by decide +kernel
theorem dL_request_4 : decode cL_request 4 = .ok (.iload_n 2, 1) := by decide +kernel
theorem dL_request_5 : decode cL_request 5 = .ok (.invokevirtual 40, 3) := by decide +kernel
theorem dL_request_8 : decode cL_request 8 = .ok (.i2l, 1) := by decide +kernel
theorem dL_request_9 : decode cL_request 9 = .ok (.lastore, 1) := by decide +kernel
theorem dL_request_10 : decode cL_request 10 = .ok (.goto 11, 3) := by decide +kernel
theorem dL_request_13 : decode cL_request 13 = .ok (.astore 4, 2) := by decide +kernel
theorem dL_request_15 : decode cL_request 15 = .ok (.iconst 1, 1) := by decide +kernel
theorem dL_request_16 : decode cL_request 16 = .ok (.ireturn, 1) := by decide +kernel
theorem dL_request_17 : decode cL_request 17 = .ok (.astore 4, 2) := by decide +kernel
theorem dL_request_19 : decode cL_request 19 = .ok (.iconst 2, 1) := by decide +kernel
theorem dL_request_20 : decode cL_request 20 = .ok (.ireturn, 1) := by decide +kernel
theorem dL_request_21 : decode cL_request 21 = .ok (.iconst 0, 1) := by decide +kernel
theorem dL_request_22 : decode cL_request 22 = .ok (.ireturn, 1) := by decide +kernel
set_option maxRecDepth 20000 in
theorem ggL_state_X5_state : GoodIn wsL_state wsX5_state := goodIn_ca (goodIn_r _ [6, 7, 8, 9, 10, 5, 11, 12, 13, 14, 15, 16, 17, 18, 19, 20, 21, 22, 23, 24, 25, 26, 27, 28] (by decide +kernel) (by decide +kernel)) (goodIn_sub (fun _ h => List.mem_cons_of_mem _ (List.mem_append_right _ h)) (by decide +kernel))
set_option maxRecDepth 20000 in
theorem gL_state_X5_state : GoodIn wsL_state (wsV RL 43 RX5 yX5_state wsX5_state) := goodIn_app (goodIn_of _ (by decide +kernel)) ggL_state_X5_state
theorem dL_state_0 : decode cL_state 0 = .ok (.aload_n 2, 1) := by decide +kernel
theorem dL_state_1 : decode cL_state 1 = .ok (.iconst 0, 1) := by decide +kernel
theorem dL_state_2 : decode cL_state 2 = .ok (.aload_n 0, 1) := by decide +kernel
theorem dL_state_3 : decode cL_state 3 = .ok (.iload_n 1, 1) := by decide +kernel
theorem dL_state_4 : decode cL_state 4 = .ok (.invokevirtual 43, 3) := by decide +kernel
theorem dL_state_7 : decode cL_state 7 = .ok (.i2l, 1) := by decide +kernel
theorem dL_state_8 : decode cL_state 8 = .ok (.lastore, 1) := by decide +kernel
theorem dL_state_9 : decode cL_state 9 = .ok (.goto 6, 3) := by decide +kernel
theorem dL_state_12 : decode cL_state 12 = .ok (.astore_n 3, 1) := by decide +kernel
theorem dL_state_13 : decode cL_state 13 = .ok (.iconst 1, 1) := by decide +kernel
theorem dL_state_14 : decode cL_state 14 = .ok (.ireturn, 1) := by decide +kernel
end
section
/-! THE HEAP AS A FUNCTION OF ADDRESSES: a picture f says what lies at an address; a method is told what f is at its start, and says what f' is at its end. -/
abbrev zD : Type := va_G × (ClassId × ClassId × ClassId × ClassId × ClassId)
def zTy (D : zD) : List (ClassId × FieldType) := [(D.2.1, .int), (D.2.2.1, .object "UnionList$Copy"), (D.2.2.2.1, .object "UnionList$Request"), (D.2.2.2.2.1, .object "UnionList$Sent"), (D.2.2.2.2.2, .long)]
abbrev zF : Type := Nat → Option va_E
def zP (D : zD) (f : zF) (H : Heap) : Prop := ∀ q e, f q = some e → va_at D.1 vwCl (q, e) H
def zA (S0 : Nat) : Nat → Prop := fun q => S0 ≤ q
/-- what stands in the middle of a method: some picture of the heap, with Rep; nothing below S0 has changed since the method's start -/
def zW (D : zD) (S0 : Nat) (Rep : Nat → zF → Prop) (H0 H : Heap) (locs : List Loc) : Prop :=
  ∃ f, zP D f H ∧ (∀ q e, f q = some e → S0 ≤ q) ∧ va_S (zA S0) H0 H locs ∧ Rep H.size f
theorem zP.up {D : zD} {f : zF} {H H' : Heap} {a : Nat} {e : va_E} (hP : zP D f H) (h1 : va_at D.1 vwCl (a, e) H') (oq : ∀ q : Nat, q ≠ a → H'[q]? = H[q]?) : zP D (va_up f a (some e)) H' := by
  intro q x hx
  by_cases hq : q = a
  · subst hq
    rw [va_up_self] at hx
    cases hx
    exact h1
  · rw [va_up_ne _ _ hq] at hx
    exact (hP q x hx).kept (oq q hq)
theorem zd_up {S0 : Nat} {f : zF} {a : Nat} {e : va_E} (h : ∀ q e, f q = some e → S0 ≤ q) (ha : S0 ≤ a) : ∀ q x, va_up f a (some e) q = some x → S0 ≤ q := by
  intro q x hx
  by_cases hq : q = a
  · rw [hq]; exact ha
  · rw [va_up_ne _ _ hq] at hx
    exact h q x hx
theorem zW.mono {D : zD} {S0 : Nat} {Rep Rep' : Nat → zF → Prop} {H0 H : Heap} {locs : List Loc} (h : zW D S0 Rep H0 H locs) (hR : ∀ n f, Rep n f → Rep' n f) : zW D S0 Rep' H0 H locs := by
  obtain ⟨f, h1, h2, h3, h4⟩ := h
  exact ⟨f, h1, h2, h3, hR _ _ h4⟩
section ZR
variable {p : Program} {l : Launch} {e : Env} {R : Room} {s : State} {m : MethodId} {args : Array Value} {below : List Frame} {meth : Method} {c : Code} {H : Heap} {locs : List Loc} {cells slots : Nat} {Q : State → Prop}
variable {cc : ByteArray} {pc : Nat} {ls : Array Slot} {rest : List Value} {D : zD} {S0 : Nat} {Rep Rep' : Nat → zF → Prop} {a : Nat} {H0 : Heap}
theorem zw_get (hx : p.tables.exec = Jvm.exec) (hb : c.code = cc) {own ref C : String} {T : u_T} {N ci index : Nat} {Ts : List Cond} (hts : ∀ w ∈ Ts, w.before args s = true) (hin : ∀ w ∈ u_ws C T N, w ∈ Ts) (hown : s.vm.findClass own = some m.cls) (hK : va_K D.1 vwCl (zTy D) s) (hW : zW D S0 Rep H0 H locs) {fs : List Value} (he : ∀ n f, Rep n f → f a = some (.inr (ci, fs))) (hc : vwCl[ci]? = some (C, T, N)) (k : Nat) (hk : k < N) (hlink : (Cond.fieldLink own index ref (T k).2.1 (T k).2.2.1).before args s = true) (hsame : ∀ x, s.fieldFound? (T k).1 (T k).2.1 (T k).2.2.1 = some x → s.fieldFound? ref (T k).2.1 (T k).2.2.1 = some x) {v : Value} (hv : fs[k]? = some v) (hdg : decode cc pc = .ok (.getfield index, 3))
    (kk : W p l e R s m args below meth c H locs cells slots Q (F0 m (pc + 3) ls (v :: rest))) : W p l e R s m args below meth c H locs cells slots Q (F0 m pc ls (.ref a :: rest)) := by
  obtain ⟨f, hP, hd, hS, hR⟩ := hW
  have hf := he _ _ hR
  refine va_get (ws := [(a, .inr (ci, fs))]) hx hb hts hin hown hK (fun j q hq => ?_) 0 rfl hc k hk hlink hsame hv hdg kk
  have hj : j < 1 := (List.getElem?_eq_some_iff.mp hq).1
  rw [show j = 0 by omega] at hq
  cases hq
  exact hP a _ hf
theorem zw_put (hx : p.tables.exec = Jvm.exec) (hb : c.code = cc) {own ref C : String} {T : u_T} {N ci index : Nat} {Ts : List Cond} (hts : ∀ w ∈ Ts, w.before args s = true) (hin : ∀ w ∈ u_ws C T N, w ∈ Ts) (ty0 : Nat → FieldType) (hty : ∀ k, k < N → parseFieldDescriptor (T k).2.2.1 = some (ty0 k)) (hnm : ∀ a, a < N → ∀ b, b < N → a ≠ b → (T a).2.1 ≠ (T b).2.1) (hown : s.vm.findClass own = some m.cls) (hK : va_K D.1 vwCl (zTy D) s) (hW : zW D S0 Rep H0 H locs) {fs : List Value} (he : ∀ n f, Rep n f → f a = some (.inr (ci, fs))) (hc : vwCl[ci]? = some (C, T, N)) (k : Nat) (hk : k < N) (hlink : (Cond.fieldLink own index ref (T k).2.1 (T k).2.2.1).before args s = true) (hsame : ∀ x, s.fieldFound? (T k).1 (T k).2.1 (T k).2.2.1 = some x → s.fieldFound? ref (T k).2.1 (T k).2.2.1 = some x) (hfin : (T k).2.2.2 = false) {v : Value} (hn : narrow (ty0 k) v = v) (hfit : fits (ty0 k) v = true) (hl : k < fs.length)
    (hdg : decode cc pc = .ok (.putfield index, 3)) (hR' : ∀ n f, Rep n f → Rep' n (va_up f a (some (.inr (ci, fs.set k v)))))
    (kk : ∀ (H1 : Heap) (locs1 : List Loc), zW D S0 Rep' H0 H1 locs1 → W p l e R s m args below meth c H1 locs1 cells slots Q (F0 m (pc + 3) ls rest)) : W p l e R s m args below meth c H locs cells slots Q (F0 m pc ls (v :: .ref a :: rest)) := by
  have hap := va_apart (own := own) hts hin ty0 hty hnm hK hc
  obtain ⟨f, hP, hd, hS, hR⟩ := hW
  have hf := he _ _ hR
  obtain ⟨r, h1, cell, q1, q2, q3, q4⟩ := hP a _ hf
  have hr : r = (C, T, N) := Option.some.inj (h1.symm.trans hc)
  subst hr
  obtain ⟨hSl, hfc, kC, hkC, hkind⟩ := hK.1 ci _ hc
  obtain ⟨cf, kf, fi, fd, hi, hsl⟩ := hSl k hk
  have hlay := hts _ (hin _ (u_in_lay hk))
  unfold u_lay at hlay
  rw [if_neg (by rw [hfin]; decide)] at hlay
  have hst := (u_facts hfc hkC (u_lays hts hin hk) hi).1
  have h6 := u_store hfc hkC hkind hlay hi (hty k hk) hn hfit
  refine W.putK hx hb (f := fd) ⟨hown, hlink, ⟨_, _, _, hsame _ hi⟩, hst⟩ (by rw [q2]; exact h6) q1 q3 (by rw [hsl]; exact k2_hasslot (q4 k hk)) rfl rfl hdg fun H' e1 e2 e3 => ?_
  rw [hsl] at e1 ⊢
  refine kk H' _ ⟨_, hP.up ?_ e3, zd_up hd (hd _ _ hf), hS.put e2 e3 (hd _ _ hf), by rw [e2]; exact hR' _ _ hR⟩
  exact ⟨_, hc, t_OB.to (V := updV (vp_V fs) k v) ⟨_, e1, q2, q3, t_set q4 hap hk v⟩ (fun j _ => vp_updV_set hl v j)⟩
theorem zw_putF (hx : p.tables.exec = Jvm.exec) (hb : c.code = cc) {own ref C : String} {T : u_T} {N ci index : Nat} {Ts : List Cond} (hts : ∀ w ∈ Ts, w.before args s = true) (hin : ∀ w ∈ u_ws C T N, w ∈ Ts) (ty0 : Nat → FieldType) (hty : ∀ k, k < N → parseFieldDescriptor (T k).2.2.1 = some (ty0 k)) (hnm : ∀ a, a < N → ∀ b, b < N → a ≠ b → (T a).2.1 ≠ (T b).2.1) (hown : s.vm.findClass own = some m.cls) (hK : va_K D.1 vwCl (zTy D) s) (hW : zW D S0 Rep H0 H locs) {fs : List Value} (he : ∀ n f, Rep n f → f a = some (.inr (ci, fs))) (hc : vwCl[ci]? = some (C, T, N)) (k : Nat) (hk : k < N) (hlink : (Cond.fieldLink own index ref (T k).2.1 (T k).2.2.1).before args s = true) (hsame : ∀ x, s.fieldFound? (T k).1 (T k).2.1 (T k).2.2.1 = some x → s.fieldFound? ref (T k).2.1 (T k).2.2.1 = some x) (hfin : (T k).2.2.2 = true) (hin2 : meth.name = "<init>") (hdecl : (T k).1 = own) {v : Value} (hn : narrow (ty0 k) v = v) (hfit : fits (ty0 k) v = true) (hl : k < fs.length)
    (hdg : decode cc pc = .ok (.putfield index, 3)) (hR' : ∀ n f, Rep n f → Rep' n (va_up f a (some (.inr (ci, fs.set k v)))))
    (kk : ∀ (H1 : Heap) (locs1 : List Loc), zW D S0 Rep' H0 H1 locs1 → W p l e R s m args below meth c H1 locs1 cells slots Q (F0 m (pc + 3) ls rest)) : W p l e R s m args below meth c H locs cells slots Q (F0 m pc ls (v :: .ref a :: rest)) := by
  have hap := va_apart (own := own) hts hin ty0 hty hnm hK hc
  obtain ⟨f, hP, hd, hS, hR⟩ := hW
  have hf := he _ _ hR
  obtain ⟨r, h1, cell, q1, q2, q3, q4⟩ := hP a _ hf
  have hr : r = (C, T, N) := Option.some.inj (h1.symm.trans hc)
  subst hr
  obtain ⟨hSl, hfc, kC, hkC, hkind⟩ := hK.1 ci _ hc
  obtain ⟨cf, kf, fi, fd, hi, hsl⟩ := hSl k hk
  have hlay := hts _ (hin _ (u_in_lay hk))
  unfold u_lay at hlay
  rw [if_pos hfin] at hlay
  have hst := (u_facts hfc hkC (u_lays hts hin hk) hi).1
  have hcf : m.cls = cf := by
    obtain ⟨_, _, c', _, _, _, -, -, hf', -, -, -, hown2, -⟩ := Cond.laysFinal_spec hlay
    have e1 : c' = cf := by have := hi.symm.trans hf'; simp at this; exact this.1.symm
    rw [hdecl] at hown2
    rw [← e1]; exact Option.some.inj (hown.symm.trans hown2)
  have h6 := u_fits hfc hkC hkind (Or.inr hlay) hi (hty k hk) hn hfit
  refine W.putFinK hx hb hown hlink (hsame _ hi) hst hcf hin2 (by rw [q2]; exact h6) q1 q3 (by rw [hsl]; exact k2_hasslot (q4 k hk)) rfl rfl hdg fun H' e1 e2 e3 => ?_
  rw [hsl] at e1 ⊢
  refine kk H' _ ⟨_, hP.up ?_ e3, zd_up hd (hd _ _ hf), hS.put e2 e3 (hd _ _ hf), by rw [e2]; exact hR' _ _ hR⟩
  exact ⟨_, hc, t_OB.to (V := updV (vp_V fs) k v) ⟨_, e1, q2, q3, t_set q4 hap hk v⟩ (fun j _ => vp_updV_set hl v j)⟩
theorem zw_iald (hx : p.tables.exec = Jvm.exec) (hb : c.code = cc) (hK : va_K D.1 vwCl (zTy D) s) (hW : zW D S0 Rep H0 H locs) {n : Nat} {g : Nat → Int32} (he : ∀ k f, Rep k f → f a = some (.inl (D.2.1, n, .inl g))) {i : Int32} (hin : vp_in i n) (hdg : decode cc pc = .ok (.iaload, 1))
    (kk : W p l e R s m args below meth c H locs cells slots Q (F0 m (pc + 1) ls (.int (g i.toNatClampNeg) :: rest))) : W p l e R s m args below meth c H locs cells slots Q (F0 m pc ls (.int i :: .ref a :: rest)) := by
  obtain ⟨f, hP, hd, hS, hR⟩ := hW
  have hf := he _ _ hR
  refine va_iald (ws := [(a, .inl (D.2.1, n, .inl g))]) hx hb hK (fun j q hq => ?_) 0 0 rfl rfl hin hdg kk
  have hj : j < 1 := (List.getElem?_eq_some_iff.mp hq).1
  rw [show j = 0 by omega] at hq
  cases hq
  exact hP a _ hf
theorem zw_lald (hx : p.tables.exec = Jvm.exec) (hb : c.code = cc) (hK : va_K D.1 vwCl (zTy D) s) (hW : zW D S0 Rep H0 H locs) {n : Nat} {g : Nat → Int64} (he : ∀ k f, Rep k f → f a = some (.inl (D.2.2.2.2.2, n, .inr (.inl g)))) {i : Int32} (hin : vp_in i n) (hdg : decode cc pc = .ok (.laload, 1))
    (kk : W p l e R s m args below meth c H locs cells slots Q (F0 m (pc + 1) ls (.long (g i.toNatClampNeg) :: rest))) : W p l e R s m args below meth c H locs cells slots Q (F0 m pc ls (.int i :: .ref a :: rest)) := by
  obtain ⟨f, hP, hd, hS, hR⟩ := hW
  have hf := he _ _ hR
  refine va_lald (ws := [(a, .inl (D.2.2.2.2.2, n, .inr (.inl g)))]) hx hb hK (fun j q hq => ?_) 0 4 rfl rfl hin hdg kk
  have hj : j < 1 := (List.getElem?_eq_some_iff.mp hq).1
  rw [show j = 0 by omega] at hq
  cases hq
  exact hP a _ hf
theorem zw_aldq (hx : p.tables.exec = Jvm.exec) (hb : c.code = cc) (hK : va_K D.1 vwCl (zTy D) s) (hW : zW D S0 Rep H0 H locs) (t0 : Nat) {cA : ClassId} {C : String} (ht : (zTy D)[t0]? = some (cA, .object C)) {n : Nat} {g : Nat → Option Nat} (he : ∀ k f, Rep k f → f a = some (.inl (cA, n, .inr (.inr (.inr (.inr g)))))) {i : Int32} (hin : vp_in i n) (hdg : decode cc pc = .ok (.aaload, 1))
    (kk : W p l e R s m args below meth c H locs cells slots Q (F0 m (pc + 1) ls (va_rf (g i.toNatClampNeg) :: rest))) : W p l e R s m args below meth c H locs cells slots Q (F0 m pc ls (.int i :: .ref a :: rest)) := by
  obtain ⟨f, hP, hd, hS, hR⟩ := hW
  have hf := he _ _ hR
  refine va_aldq (ws := [(a, .inl (cA, n, .inr (.inr (.inr (.inr g)))))]) hx hb hK (fun j q hq => ?_) 0 t0 rfl ht hin hdg kk
  have hj : j < 1 := (List.getElem?_eq_some_iff.mp hq).1
  rw [show j = 0 by omega] at hq
  cases hq
  exact hP a _ hf
theorem zw_alen (hx : p.tables.exec = Jvm.exec) (hb : c.code = cc) (hK : va_K D.1 vwCl (zTy D) s) (hW : zW D S0 Rep H0 H locs) (t0 : Nat) {cA : ClassId} {ty : FieldType} (ht : (zTy D)[t0]? = some (cA, ty)) {x : vp_A} (he : ∀ k f, Rep k f → f a = some (.inl (cA, x))) {v : Int32} (hv : Int32.ofNat x.1 = v) (hdg : decode cc pc = .ok (.arraylength, 1))
    (kk : W p l e R s m args below meth c H locs cells slots Q (F0 m (pc + 1) ls (.int v :: rest))) : W p l e R s m args below meth c H locs cells slots Q (F0 m pc ls (.ref a :: rest)) := by
  obtain ⟨f, hP, hd, hS, hR⟩ := hW
  have hf := he _ _ hR
  refine va_alen (ws := [(a, .inl (cA, x))]) hx hb hK (fun j q hq => ?_) 0 t0 rfl ht hv hdg kk
  have hj : j < 1 := (List.getElem?_eq_some_iff.mp hq).1
  rw [show j = 0 by omega] at hq
  cases hq
  exact hP a _ hf
theorem zw_iast (hx : p.tables.exec = Jvm.exec) (hb : c.code = cc) (hK : va_K D.1 vwCl (zTy D) s) (hW : zW D S0 Rep H0 H locs) {n : Nat} {g : Nat → Int32} (he : ∀ k f, Rep k f → f a = some (.inl (D.2.1, n, .inl g))) {i x : Int32} (hin : vp_in i n) (hdg : decode cc pc = .ok (.iastore, 1))
    (hR' : ∀ k f, Rep k f → Rep' k (va_up f a (some (.inl (D.2.1, n, .inl (upd g i.toNatClampNeg x))))))
    (kk : ∀ (H1 : Heap) (locs1 : List Loc), zW D S0 Rep' H0 H1 locs1 → W p l e R s m args below meth c H1 locs1 cells slots Q (F0 m (pc + 1) ls rest)) : W p l e R s m args below meth c H locs cells slots Q (F0 m pc ls (.int x :: .int i :: .ref a :: rest)) := by
  obtain ⟨f, hP, hd, hS, hR⟩ := hW
  have hf := he _ _ hR
  refine W.iast hx hb (hP a _ hf) ((hK.2 0 _ rfl).1 n (fun j => .int (g j))) (fun q => by cases q) (by show ¬ (i < 0 ∨ (arrV _ _ _).slots.size ≤ _); rw [arrV_size]; exact hin) rfl rfl hdg fun H1 e z oq => ?_
  refine kk H1 _ ⟨_, hP.up ?_ oq, zd_up hd (hd _ _ hf), hS.put z oq (hd _ _ hf), by rw [z]; exact hR' _ _ hR⟩
  show H1[a]? = some (vp_cell _ _)
  rw [e]
  rw [vp_cell_i, vp_cell_i, arrV_store]
  congr 2
  funext q
  by_cases hq : q = i.toNatClampNeg
  · subst hq
    simp [updV, upd]
  · simp [updV, upd, hq]
theorem zw_last (hx : p.tables.exec = Jvm.exec) (hb : c.code = cc) (hK : va_K D.1 vwCl (zTy D) s) (hW : zW D S0 Rep H0 H locs) {n : Nat} {g : Nat → Int64} (he : ∀ k f, Rep k f → f a = some (.inl (D.2.2.2.2.2, n, .inr (.inl g)))) {i : Int32} {x : Int64} (hin : vp_in i n) (hdg : decode cc pc = .ok (.lastore, 1))
    (hR' : ∀ k f, Rep k f → Rep' k (va_up f a (some (.inl (D.2.2.2.2.2, n, .inr (.inl (vp_updL g i.toNatClampNeg x)))))))
    (kk : ∀ (H1 : Heap) (locs1 : List Loc), zW D S0 Rep' H0 H1 locs1 → W p l e R s m args below meth c H1 locs1 cells slots Q (F0 m (pc + 1) ls rest)) : W p l e R s m args below meth c H locs cells slots Q (F0 m pc ls (.long x :: .int i :: .ref a :: rest)) := by
  obtain ⟨f, hP, hd, hS, hR⟩ := hW
  have hf := he _ _ hR
  refine W.last hx hb (hP a _ hf) ((hK.2 4 _ rfl).1 n (fun j => .long (g j))) (fun q => by cases q) (by show ¬ (i < 0 ∨ (arrV _ _ _).slots.size ≤ _); rw [arrV_size]; exact hin) rfl rfl hdg fun H1 e z oq => ?_
  refine kk H1 _ ⟨_, hP.up ?_ oq, zd_up hd (hd _ _ hf), hS.put z oq (hd _ _ hf), by rw [z]; exact hR' _ _ hR⟩
  show H1[a]? = some (vp_cell _ _)
  rw [e]
  rw [vp_cell_l, vp_cell_l, arrV_store]
  congr 2
  funext q
  by_cases hq : q = i.toNatClampNeg
  · subst hq
    simp [updV, vp_updL]
  · simp [updV, vp_updL, hq]
theorem zw_astq (hx : p.tables.exec = Jvm.exec) (hb : c.code = cc) (hK : va_K D.1 vwCl (zTy D) s) (hW : zW D S0 Rep H0 H locs) (t0 : Nat) {cA : ClassId} {r : vw_C} (ht : (zTy D)[t0]? = some (cA, .object r.1)) {n v ci : Nat} {vs : List Value} {g : Nat → Option Nat} (he : ∀ k f, Rep k f → f a = some (.inl (cA, n, .inr (.inr (.inr (.inr g)))))) (hv : ∀ k f, Rep k f → f v = some (.inr (ci, vs))) (hc : vwCl[ci]? = some r) {i : Int32} (hin : vp_in i n) (hdg : decode cc pc = .ok (.aastore, 1))
    (hR' : ∀ k f, Rep k f → Rep' k (va_up f a (some (.inl (cA, n, .inr (.inr (.inr (.inr (va_up g i.toNatClampNeg (some v))))))))))
    (kk : ∀ (H1 : Heap) (locs1 : List Loc), zW D S0 Rep' H0 H1 locs1 → W p l e R s m args below meth c H1 locs1 cells slots Q (F0 m (pc + 1) ls rest)) : W p l e R s m args below meth c H locs cells slots Q (F0 m pc ls (.ref v :: .int i :: .ref a :: rest)) := by
  obtain ⟨f, hP, hd, hS, hR⟩ := hW
  have hf := he _ _ hR
  have hlt : i.toNatClampNeg < n := Nat.not_le.mp fun q => hin (Or.inr q)
  have h0 : ¬ i < 0 := fun q => hin (Or.inl q)
  obtain ⟨r', hr', cellV, g1, g2, g3, -⟩ := hP v _ (hv _ _ hR)
  have hcls := (hK.1 ci r hc).2
  obtain ⟨kA, comp, k1, k2, k3, -⟩ := (hK.2 t0 _ ht).2
  have hcomp : comp = D.1.1 ci := Option.some.inj (k3.symm.trans hcls.1)
  subst hcomp
  obtain ⟨kC, hkC, -⟩ := hcls.2
  refine W.aast hx hb (hP a _ hf) (fun q h => by cases h) (fun h => by cases h) k1 k2 rfl hkC ⟨h0, by show _ < (arrV _ _ _).slots.size; rw [arrV_size]; exact hlt⟩ g1 (fun q h => by rw [g3] at h; cases h) (by rw [g2]; exact hkC) (by rw [g2]; exact va_assign hcls) rfl rfl hdg fun H1 e z oq => ?_
  refine kk H1 _ ⟨_, hP.up ?_ oq, zd_up hd (hd _ _ hf), hS.put z oq (hd _ _ hf), by rw [z]; exact hR' _ _ hR⟩
  show H1[a]? = some (vp_cell _ _)
  rw [e]
  rw [vp_cell_q, vp_cell_q, arrV_store]
  congr 2
  funext q
  by_cases hq : q = i.toNatClampNeg
  · subst hq
    simp [updV, va_up, va_rf]
  · simp [updV, va_up, hq]
theorem zw_astqN (hx : p.tables.exec = Jvm.exec) (hb : c.code = cc) (hK : va_K D.1 vwCl (zTy D) s) (hW : zW D S0 Rep H0 H locs) (t0 : Nat) {cA : ClassId} {C : String} (ht : (zTy D)[t0]? = some (cA, .object C)) {n : Nat} {g : Nat → Option Nat} (he : ∀ k f, Rep k f → f a = some (.inl (cA, n, .inr (.inr (.inr (.inr g)))))) {i : Int32} (hin : vp_in i n) (hdg : decode cc pc = .ok (.aastore, 1))
    (hR' : ∀ k f, Rep k f → Rep' k (va_up f a (some (.inl (cA, n, .inr (.inr (.inr (.inr (va_up g i.toNatClampNeg none)))))))))
    (kk : ∀ (H1 : Heap) (locs1 : List Loc), zW D S0 Rep' H0 H1 locs1 → W p l e R s m args below meth c H1 locs1 cells slots Q (F0 m (pc + 1) ls rest)) : W p l e R s m args below meth c H locs cells slots Q (F0 m pc ls (.null :: .int i :: .ref a :: rest)) := by
  obtain ⟨f, hP, hd, hS, hR⟩ := hW
  have hf := he _ _ hR
  refine va_WaastN (C := C) hx hb (hP a _ hf) ((hK.2 t0 _ ht).1 n (fun j => va_rf (g j))) (fun h => by cases h) (by show ¬ (i < 0 ∨ (arrV _ _ _).slots.size ≤ _); rw [arrV_size]; exact hin) rfl rfl hdg fun H1 e z oq => ?_
  refine kk H1 _ ⟨_, hP.up ?_ oq, zd_up hd (hd _ _ hf), hS.put z oq (hd _ _ hf), by rw [z]; exact hR' _ _ hR⟩
  show H1[a]? = some (vp_cell _ _)
  rw [e]
  rw [vp_cell_q, vp_cell_q, arrV_store]
  congr 2
  funext q
  by_cases hq : q = i.toNatClampNeg
  · subst hq
    simp [updV, va_up, va_rf]
  · simp [updV, va_up, hq]
/-- a new cell lies at the heap's end, where the picture says nothing -/
theorem zP.none {D : zD} {f : zF} {H : Heap} (hP : zP D f H) : f H.size = none := by
  cases hf : f H.size with
  | none => rfl
  | some e =>
    have h : H.size < H.size := (hP _ _ hf).lt
    omega
theorem zP.new {D : zD} {f : zF} {H H' : Heap} {e : va_E} (hP : zP D f H) (h1 : va_at D.1 vwCl (H.size, e) H') (oq : ∀ q : Nat, q < H.size → H'[q]? = H[q]?) : zP D (va_up f H.size (some e)) H' := by
  intro q x hx
  by_cases hq : q = H.size
  · subst hq
    rw [va_up_self] at hx
    cases hx
    exact h1
  · rw [va_up_ne _ _ hq] at hx
    exact (hP q x hx).kept (oq q (hP q x hx).lt)
theorem zS.new {S0 : Nat} {H H' : Heap} (hS : va_S (zA S0) H0 H locs) (z1 : H'.size = H.size + 1) (o1 : ∀ q, q < H.size → H'[q]? = H[q]?) : va_S (zA S0) H0 H' locs :=
  ⟨Nat.le_trans hS.1 (by omega), fun x h1 h2 => (o1 x (Nat.lt_of_lt_of_le h1 hS.1)).trans (hS.2.1 x h1 h2), hS.2.2⟩
theorem zw_new (hx : p.tables.exec = Jvm.exec) (hb : c.code = cc) {own C : String} {T : u_T} {N ci index : Nat} {Ts : List Cond} (hts : ∀ w ∈ Ts, w.before args s = true) (hin : ∀ w ∈ u_ws C T N, w ∈ Ts) (ty : Nat → FieldType) (hty : ∀ k, k < N → parseFieldDescriptor (T k).2.2.1 = some (ty k)) (hown : s.vm.findClass own = some m.cls) (hcl : (Cond.classLink own index C).before args s = true) (hinst : (Cond.instantiable C N).before args s = true) (hini : (Cond.initialized C).before args s = true)
    (hK : va_K D.1 vwCl (zTy D) s) (hW : zW D S0 Rep H0 H locs) (hS0 : S0 ≤ H0.size) (hc : vwCl[ci]? = some (C, T, N)) {fs : List Value} (hfs : ∀ j, j < N → defaultValue (ty j) = vp_V fs j) (hcells : cells + 1 ≤ R.cells) (hslots : slots + N ≤ R.slots) (hdg : decode cc pc = .ok (.new index, 3))
    (kk : ∀ (q : Nat) (H1 : Heap), zW D S0 (fun n f' => ∃ f, Rep q f ∧ f q = none ∧ n = q + 1 ∧ f' = va_up f q (some (.inr (ci, fs)))) H0 H1 locs → H0.size ≤ q → W p l e R s m args below meth c H1 locs (cells + 1) (slots + N) Q (F0 m (pc + 3) ls (.ref q :: rest))) : W p l e R s m args below meth c H locs cells slots Q (F0 m pc ls rest) := by
  obtain ⟨f, hP, hd, hS, hR⟩ := hW
  have hKn := hK.1 ci _ hc
  refine W.newcK hx hb hown hcl hinst hini rfl hdg hcells hslots hKn.2.1 rfl fun H1 kC hkC e1 z1 o1 => ?_
  refine kk H.size H1 ⟨_, hP.new (e := .inr (ci, fs)) ?_ o1, zd_up hd (Nat.le_trans hS0 hS.1), zS.new hS z1 o1, f, hR, hP.none, z1, rfl⟩ hS.1
  exact ⟨_, hc, (u_born ty hts hin hKn hkC e1 hty).to hfs⟩
theorem zw_newi (hx : p.tables.exec = Jvm.exec) (hb : c.code = cc) (harr : (Cond.arrayClass (newarray.typeOf .int)).before args s = true)
    (hK : va_K D.1 vwCl (zTy D) s) (hW : zW D S0 Rep H0 H locs) (hS0 : S0 ≤ H0.size) {n : Int32} {N' : Nat} (hn : ¬ n < 0) (hN : n.toNatClampNeg = N') (hbytes : N' * componentBytes .int ≤ 536870912) (hcells : cells + 1 ≤ R.cells) (hslots : slots + N' ≤ R.slots) (hdg : decode cc pc = .ok (.newarray .int, 2))
    (kk : ∀ (q : Nat) (H1 : Heap), zW D S0 (fun k f' => ∃ f, Rep q f ∧ f q = none ∧ k = q + 1 ∧ f' = va_up f q (some (.inl (D.2.1, N', .inl (fun _ => 0))))) H0 H1 locs → H0.size ≤ q → W p l e R s m args below meth c H1 locs (cells + 1) (slots + N') Q (F0 m (pc + 2) ls (.ref q :: rest))) : W p l e R s m args below meth c H locs cells slots Q (F0 m pc ls (.int n :: rest)) := by
  obtain ⟨f, hP, hd, hS, hR⟩ := hW
  refine va_newaK hx hb harr rfl hdg rfl hn hN hbytes hcells hslots rfl fun H1 cA e1 z1 o1 hAr hNm => ?_
  have hcA : cA = D.2.1 := Option.some.inj (hNm.symm.trans ((hK.2 0 _ rfl).2 : s.vm.findClass ("[" ++ (FieldType.int).toString) = some D.2.1))
  subst hcA
  exact kk H.size H1 ⟨_, hP.new (e := .inl (D.2.1, N', .inl (fun _ => 0))) e1 o1, zd_up hd (Nat.le_trans hS0 hS.1), zS.new hS z1 o1, f, hR, hP.none, z1, rfl⟩ hS.1
theorem zw_newl (hx : p.tables.exec = Jvm.exec) (hb : c.code = cc) (harr : (Cond.arrayClass (newarray.typeOf .long)).before args s = true)
    (hK : va_K D.1 vwCl (zTy D) s) (hW : zW D S0 Rep H0 H locs) (hS0 : S0 ≤ H0.size) {n : Int32} {N' : Nat} (hn : ¬ n < 0) (hN : n.toNatClampNeg = N') (hbytes : N' * componentBytes .long ≤ 536870912) (hcells : cells + 1 ≤ R.cells) (hslots : slots + N' ≤ R.slots) (hdg : decode cc pc = .ok (.newarray .long, 2))
    (kk : ∀ (q : Nat) (H1 : Heap), zW D S0 (fun k f' => ∃ f, Rep q f ∧ f q = none ∧ k = q + 1 ∧ f' = va_up f q (some (.inl (D.2.2.2.2.2, N', .inr (.inl (fun _ => 0)))))) H0 H1 locs → H0.size ≤ q → W p l e R s m args below meth c H1 locs (cells + 1) (slots + N') Q (F0 m (pc + 2) ls (.ref q :: rest))) : W p l e R s m args below meth c H locs cells slots Q (F0 m pc ls (.int n :: rest)) := by
  obtain ⟨f, hP, hd, hS, hR⟩ := hW
  refine va_newaK hx hb harr rfl hdg rfl hn hN hbytes hcells hslots rfl fun H1 cA e1 z1 o1 hAr hNm => ?_
  have hcA : cA = D.2.2.2.2.2 := Option.some.inj (hNm.symm.trans ((hK.2 4 _ rfl).2 : s.vm.findClass ("[" ++ (FieldType.long).toString) = some D.2.2.2.2.2))
  subst hcA
  exact kk H.size H1 ⟨_, hP.new (e := .inl (D.2.2.2.2.2, N', .inr (.inl (fun _ => 0)))) e1 o1, zd_up hd (Nat.le_trans hS0 hS.1), zS.new hS z1 o1, f, hR, hP.none, z1, rfl⟩ hS.1
theorem zw_newq (hx : p.tables.exec = Jvm.exec) (hb : c.code = cc) {own C : String} {index : Nat} (hown : s.vm.findClass own = some m.cls) (hclink : (Cond.classLink own index C).before args s = true) (hover : (Cond.arrayOver (.object C)).before args s = true)
    (hK : va_K D.1 vwCl (zTy D) s) (hW : zW D S0 Rep H0 H locs) (hS0 : S0 ≤ H0.size) (t0 : Nat) {cA : ClassId} (ht : (zTy D)[t0]? = some (cA, .object C)) {n : Int32} {N' : Nat} (hn : ¬ n < 0) (hN : n.toNatClampNeg = N') (hbytes : N' * 4 ≤ 536870912) (hcells : cells + 1 ≤ R.cells) (hslots : slots + N' ≤ R.slots) (hdg : decode cc pc = .ok (.anewarray index, 3))
    (kk : ∀ (q : Nat) (H1 : Heap), zW D S0 (fun k f' => ∃ f, Rep q f ∧ f q = none ∧ k = q + 1 ∧ f' = va_up f q (some (.inl (cA, N', .inr (.inr (.inr (.inr (fun _ => none)))))))) H0 H1 locs → H0.size ≤ q → W p l e R s m args below meth c H1 locs (cells + 1) (slots + N') Q (F0 m (pc + 3) ls (.ref q :: rest))) : W p l e R s m args below meth c H locs cells slots Q (F0 m pc ls (.int n :: rest)) := by
  obtain ⟨f, hP, hd, hS, hR⟩ := hW
  subst hN
  refine W.anew hx hb hown hclink hover rfl hdg rfl hn hbytes hcells hslots fun cA' kA comp f1 f2 f3 f4 => ?_
  obtain ⟨kA2, comp2, k1, k2, k3, k4⟩ := (hK.2 t0 _ ht).2
  have hcA : cA' = cA := Option.some.inj (f1.symm.trans k4)
  subst hcA
  generalize hH1 : H.push ({ cls := cA', slots := Array.replicate n.toNatClampNeg .null, vm := .none } : Cell) = H1
  have z1 : H1.size = H.size + 1 := by rw [← hH1, Array.size_push]
  have e1 : H1[H.size]? = some (arrV cA' n.toNatClampNeg (fun _ => .null)) := by rw [← hH1, Array.getElem?_push_size, ← arrV_new]
  have o1 : ∀ q : Nat, q < H.size → H1[q]? = H[q]? := fun q hq => by rw [← hH1, Array.getElem?_push, if_neg (Nat.ne_of_lt hq)]
  exact kk H.size H1 ⟨_, hP.new (e := .inl (cA', n.toNatClampNeg, .inr (.inr (.inr (.inr (fun _ => none)))))) e1 o1, zd_up hd (Nat.le_trans hS0 hS.1), zS.new hS z1 o1, f, hR, hP.none, z1, rfl⟩ hS.1
end ZR
end
section
/-! CALLS over the heap as a function: a method's start and end, the environment that every method needs -/
def zStr : List (Nat × String) := [(56, "home or title is out of range"), (63, "there are 20 copies"), (195, "there is no such copy"), (93, "it was harmed and was not mended since"), (102, "it is on its way"), (114, "it is not at home, or no harm is known"), (116, "house or title is out of range"), (118, "40 requests were made"), (198, "there is no such request"), (141, "it is no loan"), (163, "it is no loan, or a recall of it was sent"), (173, "days is out of range"), (179, "house or other is out of range"), (187, "house is out of range")]
def zEx : List String := ["java/lang/IllegalArgumentException", "java/lang/IllegalStateException", "java/lang/IndexOutOfBoundsException"]
def zDc : List String := ["java/lang/RuntimeException", "java/lang/Exception", "java/lang/Throwable"]
def zE (D : zD) (S0 : Nat) (U : State) : Prop := va_K D.1 vwCl (zTy D) U ∧ va_Nw (.methodLinkNest RX0 21 yX5_isHouse "UnionList") U ∧ vx_Zq Bundle.tN "UNASSIGNED_STACK" Bundle.steD (zA S0) U U.heap ∧ vx_Zq Bundle.tN "SUPPRESSED_SENTINEL" Bundle.listD (zA S0) U U.heap ∧ (∀ kt ∈ zStr, ∃ a, vk_R RX5 kt.1 kt.2 a U) ∧ (∀ x ∈ zEx, va_Nw (.castable x x) U) ∧ (∀ x ∈ zDc, va_Nw (.declares ⟨x, "<init>", "(Ljava/lang/String;)V"⟩) U) ∧ va_Nc "java/lang/IllegalStateException" "java/lang/IllegalArgumentException" U ∧ va_Nc "java/lang/IllegalStateException" "java/lang/IndexOutOfBoundsException" U
theorem zE.moved {D : zD} {S0 : Nat} {s U : State} {H : Heap} {locs : List Loc} (h : zE D S0 s) (hS : va_S (zA S0) s.heap H locs) (hU : U.heap = H) (hW : s.WarmedH U.vm) : zE D S0 U := by
  obtain ⟨h1, h2, h3, h4, h5, h6, h9, h7, h8⟩ := h
  refine ⟨va_K.moved hW.alike h1, va_Nw.warmM hW h2, ?_, ?_, fun kt hk => ?_, fun x hx => va_Nw.warmC hW (h6 x hx), fun x hx => va_Nw.warmD hW (h9 x hx), h7.moved hW.alike, h8.moved hW.alike⟩
  · rw [hU]; exact vx_Zq.moved hW.alike (h3.kept hS.2.1)
  · rw [hU]; exact vx_Zq.moved hW.alike (h4.kept hS.2.1)
  · obtain ⟨a, ha⟩ := h5 kt hk
    exact ⟨a, vk_R.warm hW ha⟩
theorem zE.same {D : zD} {S0 : Nat} {u U : State} (hv : U.vm = u.vm) (hh : U.heap = u.heap) (h : zE D S0 u) : zE D S0 U := by
  obtain ⟨h1, h2, h3, h4, h5, h6, h9, h7, h8⟩ := h
  have hal : u.vm.Alike U.vm := by rw [hv]; exact Vm.Alike.refl _
  refine ⟨va_K.moved hal h1, va_Nw.same rfl hv.symm h2, ?_, ?_, fun kt hk => ?_, fun x hx => va_Nw.same rfl hv.symm (h6 x hx), fun x hx => va_Nw.same rfl hv.symm (h9 x hx), h7.moved hal, h8.moved hal⟩
  · rw [hh]; exact vx_Zq.moved hal h3
  · rw [hh]; exact vx_Zq.moved hal h4
  · obtain ⟨a, ha⟩ := h5 kt hk
    exact ⟨a, vk_R.same hv ha⟩
def zB {S : Type} (D : zD) (S0 : Nat) (Rep : S → Nat → zF → Prop) (u : S) (t : State) : Prop := ∃ f, zP D f t.heap ∧ (∀ q e, f q = some e → S0 ≤ q) ∧ Rep u t.heap.size f
def zPc (D : zD) (S0 : Nat) (Rep : Nat → zF → Prop) (av : List Value) : Array Value → State → Prop := va_Pc av (fun U => S0 ≤ U.heap.size ∧ zE D S0 U ∧ ∃ f, zP D f U.heap ∧ (∀ q e, f q = some e → S0 ≤ q) ∧ Rep U.heap.size f)
theorem zPc_blind {D : zD} {S0 : Nat} {Rep : Nat → zF → Prop} {av : List Value} : FrameBlind (zPc D S0 Rep av) := by
  intro a U g mk h
  obtain ⟨h0, h1, h2, h3⟩ := h
  exact ⟨h0, h1, zE.same rfl rfl h2, h3⟩
/-- where a callee has thrown: the exception's class and the world -/
def zX {S : Type} (D : zD) (S0 : Nat) (Rep : S → Nat → zF → Prop) (QX : String → S → Prop) : String → State → State → Prop := vx_X (S := S) (fun _ => True) (fun E u t => QX E u ∧ zB D S0 Rep u t) (zA S0)
section ZC
variable {p : Program} {l : Launch} {e : Env} {R : Room} {s : State} {m : MethodId} {args : Array Value} {below : List Frame} {meth : Method} {c : Code} {H : Heap} {locs : List Loc} {cells slots : Nat} {Q : State → Prop}
variable {cc : ByteArray} {pc : Nat} {ls : Array Slot} {rest st0 : List Value} {D : zD} {S0 : Nat} {Rep : Nat → zF → Prop} {a : Array Value} {H0 : Heap} {mc ms : Nat}
theorem zpreS {As : List Value} (hE : zE D S0 s) (hs : S0 ≤ s.heap.size) (hW : zW D S0 Rep s.heap H locs) : PreS s H (zPc D S0 Rep As) As := by
  obtain ⟨f, hP, hd, hS, hR⟩ := hW
  refine ⟨zPc_blind, fun U hU hWm => ⟨rfl, ?_, hE.moved hS hU hWm, f, by rw [hU]; exact hP, hd, by rw [hU]; exact hR⟩⟩
  rw [hU]
  exact Nat.le_trans hs hS.1
theorem zpreV {As : List Value} {b ci : Nat} {fs : List Value} {q : vw_C} (hE : zE D S0 s) (hs : S0 ≤ s.heap.size) (hW : zW D S0 Rep s.heap H locs) (he : ∀ n f, Rep n f → f b = some (.inr (ci, fs))) (hc : vwCl[ci]? = some q) : PreV s H q.1 b (zPc D S0 Rep (.ref b :: As)) As := by
  refine ⟨zPc_blind, ?_, (zpreS (As := .ref b :: As) hE hs hW).2⟩
  obtain ⟨f, hP, hd, hS, hR⟩ := hW
  obtain ⟨r, h1, cell, q1, q2, q3, q4⟩ := hP b _ (he _ _ hR)
  have hr : r = q := Option.some.inj (h1.symm.trans hc)
  subst hr
  exact ⟨cell, q1, by rw [q3]; rfl, by rw [q2]; exact (hE.1.1 ci _ hc).2.1⟩
theorem zc_i {S : Type} {RepS : S → Nat → zF → Prop} {post : Int32 → S → Prop} (hr : va_Run p l e R s m args below meth c H locs cells slots mc ms (F0 m pc ls st0) rest (va_Qi post (zB D S0 RepS) (zA S0) a) (zA S0)) (hW : zW D S0 Rep H0 H locs)
    (kk : ∀ (r : Int32) (u : S) (H1 : Heap) (locs1 : List Loc), post r u → zW D S0 (RepS u) H0 H1 locs1 → W p l e R s m args below meth c H1 locs1 (cells + mc) (slots + ms) Q (F0 m (pc + 3) ls (.int r :: rest))) : W p l e R s m args below meth c H locs cells slots Q (F0 m pc ls st0) := by
  obtain ⟨f, hP, hd, hS, hR⟩ := hW
  refine va_calli hr hS (fun _ _ h => h) (fun _ h => h) (fun r u t H1 locs1 ht _ hp hB _ _ hS1 => ?_)
  obtain ⟨f1, h1, h2, h3⟩ := hB
  rw [ht] at h1 h3
  exact kk r u H1 locs1 hp ⟨f1, h1, h2, hS1, h3⟩
theorem zc_v {S : Type} {RepS : S → Nat → zF → Prop} {post : S → Prop} (hr : va_Run p l e R s m args below meth c H locs cells slots mc ms (F0 m pc ls st0) rest (va_Qv post (zB D S0 RepS) (zA S0) a) (zA S0)) (hW : zW D S0 Rep H0 H locs)
    (kk : ∀ (u : S) (H1 : Heap) (locs1 : List Loc), post u → zW D S0 (RepS u) H0 H1 locs1 → W p l e R s m args below meth c H1 locs1 (cells + mc) (slots + ms) Q (F0 m (pc + 3) ls rest)) : W p l e R s m args below meth c H locs cells slots Q (F0 m pc ls st0) := by
  obtain ⟨f, hP, hd, hS, hR⟩ := hW
  refine va_callv hr hS (fun _ _ h => h) (fun _ h => h) (fun u t H1 locs1 ht _ hp hB _ _ hS1 => ?_)
  obtain ⟨f1, h1, h2, h3⟩ := hB
  rw [ht] at h1 h3
  exact kk u H1 locs1 hp ⟨f1, h1, h2, hS1, h3⟩
theorem zc_q {S : Type} {RepS : S → Nat → zF → Prop} {post : Option Nat → S → Prop} (hr : va_Run p l e R s m args below meth c H locs cells slots mc ms (F0 m pc ls st0) rest (va_Qq post (zB D S0 RepS) (zA S0) a) (zA S0)) (hW : zW D S0 Rep H0 H locs)
    (kk : ∀ (r : Option Nat) (u : S) (H1 : Heap) (locs1 : List Loc), post r u → zW D S0 (RepS u) H0 H1 locs1 → W p l e R s m args below meth c H1 locs1 (cells + mc) (slots + ms) Q (F0 m (pc + 3) ls (va_rf r :: rest))) : W p l e R s m args below meth c H locs cells slots Q (F0 m pc ls st0) := by
  obtain ⟨f, hP, hd, hS, hR⟩ := hW
  refine va_callq hr hS (fun _ _ h => h) (fun _ h => h) (fun r u t H1 locs1 ht _ hp hB _ _ hS1 => ?_)
  obtain ⟨f1, h1, h2, h3⟩ := hB
  rw [ht] at h1 h3
  exact kk r u H1 locs1 hp ⟨f1, h1, h2, hS1, h3⟩
theorem zxc_i {S : Type} {RepS : S → Nat → zF → Prop} {post : Int32 → S → Prop} {QX : String → S → Prop} (hr : vx_Run p l e R s m args below meth c H locs cells slots mc ms (F0 m pc ls st0) rest (va_Qi post (zB D S0 RepS) (zA S0) a) (zX D S0 RepS QX) (zA S0)) (hW : zW D S0 Rep H0 H locs)
    (kx : ∀ (E : String) (ce : Cell) (q9 : Addr) (u : S) (H1 : Heap) (locs1 : List Loc), QX E u → zW D S0 (RepS u) H0 H1 locs1 → H1[q9]? = some ce → ce.vm = .none → s.vm.findClass E = some ce.cls → vx_W p l e R s m args below meth c H1 locs1 (cells + mc) (slots + ms) Q (F0 m pc ls rest) q9)
    (kk : ∀ (r : Int32) (u : S) (H1 : Heap) (locs1 : List Loc), post r u → zW D S0 (RepS u) H0 H1 locs1 → W p l e R s m args below meth c H1 locs1 (cells + mc) (slots + ms) Q (F0 m (pc + 3) ls (.int r :: rest))) : W p l e R s m args below meth c H locs cells slots Q (F0 m pc ls st0) := by
  obtain ⟨f, hP, hd, hS, hR⟩ := hW
  refine vx_calli hr hS (fun _ _ h => h) (fun _ h => h) (fun _ _ h => h) (fun E ce q9 u t H1 locs1 ht _ _ hB _ _ hS1 h1 h2 h3 => ?_) (fun r u t H1 locs1 ht _ hp hB _ _ hS1 => ?_)
  · obtain ⟨hq, f1, g1, g2, g3⟩ := hB
    rw [ht] at g1 g3
    exact kx E ce q9 u H1 locs1 hq ⟨f1, g1, g2, hS1, g3⟩ h1 h2 h3
  · obtain ⟨f1, h1, h2, h3⟩ := hB
    rw [ht] at h1 h3
    exact kk r u H1 locs1 hp ⟨f1, h1, h2, hS1, h3⟩
theorem zxc_v {S : Type} {RepS : S → Nat → zF → Prop} {post : S → Prop} {QX : String → S → Prop} (hr : vx_Run p l e R s m args below meth c H locs cells slots mc ms (F0 m pc ls st0) rest (va_Qv post (zB D S0 RepS) (zA S0) a) (zX D S0 RepS QX) (zA S0)) (hW : zW D S0 Rep H0 H locs)
    (kx : ∀ (E : String) (ce : Cell) (q9 : Addr) (u : S) (H1 : Heap) (locs1 : List Loc), QX E u → zW D S0 (RepS u) H0 H1 locs1 → H1[q9]? = some ce → ce.vm = .none → s.vm.findClass E = some ce.cls → vx_W p l e R s m args below meth c H1 locs1 (cells + mc) (slots + ms) Q (F0 m pc ls rest) q9)
    (kk : ∀ (u : S) (H1 : Heap) (locs1 : List Loc), post u → zW D S0 (RepS u) H0 H1 locs1 → W p l e R s m args below meth c H1 locs1 (cells + mc) (slots + ms) Q (F0 m (pc + 3) ls rest)) : W p l e R s m args below meth c H locs cells slots Q (F0 m pc ls st0) := by
  obtain ⟨f, hP, hd, hS, hR⟩ := hW
  refine vx_callv hr hS (fun _ _ h => h) (fun _ h => h) (fun _ _ h => h) (fun E ce q9 u t H1 locs1 ht _ _ hB _ _ hS1 h1 h2 h3 => ?_) (fun u t H1 locs1 ht _ hp hB _ _ hS1 => ?_)
  · obtain ⟨hq, f1, g1, g2, g3⟩ := hB
    rw [ht] at g1 g3
    exact kx E ce q9 u H1 locs1 hq ⟨f1, g1, g2, hS1, g3⟩ h1 h2 h3
  · obtain ⟨f1, h1, h2, h3⟩ := hB
    rw [ht] at h1 h3
    exact kk u H1 locs1 hp ⟨f1, h1, h2, hS1, h3⟩
/-- a call that hands back a reference or null, or throws -/
theorem zxc_q {S : Type} {RepS : S → Nat → zF → Prop} {post : Option Nat → S → Prop} {QX : String → S → Prop} (hr : vx_Run p l e R s m args below meth c H locs cells slots mc ms (F0 m pc ls st0) rest (va_Qq post (zB D S0 RepS) (zA S0) a) (zX D S0 RepS QX) (zA S0)) (hW : zW D S0 Rep H0 H locs)
    (kx : ∀ (E : String) (ce : Cell) (q9 : Addr) (u : S) (H1 : Heap) (locs1 : List Loc), QX E u → zW D S0 (RepS u) H0 H1 locs1 → H1[q9]? = some ce → ce.vm = .none → s.vm.findClass E = some ce.cls → vx_W p l e R s m args below meth c H1 locs1 (cells + mc) (slots + ms) Q (F0 m pc ls rest) q9)
    (kk : ∀ (r : Option Nat) (u : S) (H1 : Heap) (locs1 : List Loc), post r u → zW D S0 (RepS u) H0 H1 locs1 → W p l e R s m args below meth c H1 locs1 (cells + mc) (slots + ms) Q (F0 m (pc + 3) ls (va_rf r :: rest))) : W p l e R s m args below meth c H locs cells slots Q (F0 m pc ls st0) := by
  obtain ⟨f, hP, hd, hS, hR⟩ := hW
  intro T hT X
  rcases hr T hT X with ⟨v, st₀, t, T', L, h0, X', hL, e1, e2, ⟨⟨r, u, hv, hp, hb⟩, hF⟩, st⟩ | ⟨q, st₀, t, T', L, E, ce, h0, X', hL, e1, e2, ⟨u, -, ⟨hq, hb⟩, hF⟩, hce, hcv, hcl, st⟩
  · cases hv
    obtain ⟨k1, k2, k3⟩ := vx_keep h0 e1 hS (fun _ _ h => h) (fun _ h => h) hL hF
    obtain ⟨f1, g1, g2, g3⟩ := hb
    rw [← e1] at g1 g3
    obtain ⟨t2, a1, b1⟩ := kk r u T'.heap (locs ++ L) hp ⟨f1, g1, g2, k3, g3⟩ T' rfl X'
    exact ⟨t2, st t2 a1, b1⟩
  · obtain ⟨k1, k2, k3⟩ := vx_keep h0 e1 hS (fun _ _ h => h) (fun _ h => h) hL hF
    obtain ⟨f1, g1, g2, g3⟩ := hb
    rw [← e1] at g1 g3
    obtain ⟨t2, a1, b1⟩ := kx E ce q u T'.heap (locs ++ L) hq ⟨f1, g1, g2, k3, g3⟩ (by rw [e1]; exact hce) hcv hcl T' rfl X'
    exact ⟨t2, st.trans a1, b1⟩
end ZC
/-- a method without a table of handlers, that doesn't throw -/
theorem zMet {l : Launch} {y : MethodName} {ws ws' : List Cond} {rm : Room} {D : zD} {S0 : Nat} {Rep : Nat → zF → Prop} {av : List Value} {Qc : Array Value → State → Outcome → State → Prop} {mc ms : Nat} {cc : ByteArray} {maxL : Nat} {ret : Option FieldType}
    (hy : plainName y.cls = true) (hw : ws = Cond.code y cc maxL ret :: ws') (hlen : (lg_sl av).length ≤ maxL)
    (body : ∀ (p : Program) (e : Env) (s : State) (m : MethodId) (args : Array Value) (below : List Frame) (meth : Method) (c : Code) (ls : Array Slot), p.tables.exec = Jvm.exec → c.code = cc → meth.sig.returnType = ret → c.maxLocals = maxL → s.vm.findClass y.cls = some m.cls → (∀ w ∈ ws, w.before args s = true) → meth.locks = false → meth.name = y.name → S0 ≤ s.heap.size → zE D S0 s → zW D S0 Rep s.heap s.heap [] → lv_has ls maxL (lv_args 0 av) →
      W p l e rm s m args below meth c s.heap [] 0 0 (MQ below Qc args s mc ms (zA S0)) (F0 m 0 ls [])) : Met l y ws rm (zPc D S0 Rep av) Qc mc ms (zA S0) := by
  refine Met.ofW (cc := cc) (maxL := maxL) (ret := ret) hy hw ?_
  intro p e s m args below meth c s₁ B hml hv
  obtain ⟨rfl, hs, hE, f, hP, hd, hR⟩ := hv
  rw [lg_entry_eq]
  exact body p e s m _ below meth c _ B.exec B.bytes B.returns hml (findClass_of_methodNamed B.named) (atoms_spec (ws := ws) B.pre) B.notSynchronized (name_of_methodNamed B.named B.method).1 hs hE ⟨f, hP, hd, va_S.rf, hR⟩ (lv_entry av hlen)
/-- .. that may throw -/
theorem zMetX {l : Launch} {y : MethodName} {ws ws' : List Cond} {rm : Room} {D : zD} {S0 : Nat} {Rep : Nat → zF → Prop} {av : List Value} {Qc : Array Value → State → Outcome → State → Prop} {XC : String → State → State → Prop} {mc ms : Nat} {cc : ByteArray} {maxL : Nat} {ret : Option FieldType}
    (hy : plainName y.cls = true) (hw : ws = Cond.code y cc maxL ret :: ws') (hlen : (lg_sl av).length ≤ maxL)
    (body : ∀ (p : Program) (e : Env) (s : State) (m : MethodId) (args : Array Value) (below : List Frame) (meth : Method) (c : Code) (ls : Array Slot), p.tables.exec = Jvm.exec → c.code = cc → meth.sig.returnType = ret → c.maxLocals = maxL → s.vm.findClass y.cls = some m.cls → (∀ w ∈ ws, w.before args s = true) → meth.locks = false → meth.name = y.name → (∀ x ∈ c.exceptionTable.toList, False) → S0 ≤ s.heap.size → zE D S0 s → zW D S0 Rep s.heap s.heap [] → lv_has ls maxL (lv_args 0 av) →
      W p l e rm s m args below meth c s.heap [] 0 0 (vx_MQ below Qc XC args s mc ms (zA S0)) (F0 m 0 ls [])) : vx_Met l y ws rm (zPc D S0 Rep av) Qc XC mc ms (zA S0) := by
  refine vx_ofW (cc := cc) (maxL := maxL) (ret := ret) hy hw ?_
  intro p e s m args below meth c s₁ B hml ht hv
  obtain ⟨rfl, hs, hE, f, hP, hd, hR⟩ := hv
  rw [lg_entry_eq]
  exact body p e s m _ below meth c _ B.exec B.bytes B.returns hml (findClass_of_methodNamed B.named) (atoms_spec (ws := ws) B.pre) B.notSynchronized (name_of_methodNamed B.named B.method).1 ht hs hE ⟨f, hP, hd, va_S.rf, hR⟩ (lv_entry av hlen)
section ZRet
variable {p : Program} {l : Launch} {e : Env} {R : Room} {s : State} {m : MethodId} {args : Array Value} {below : List Frame} {meth : Method} {c : Code} {H : Heap} {locs : List Loc} {cells slots : Nat}
variable {cc : ByteArray} {pc : Nat} {ls : Array Slot} {D : zD} {S0 : Nat} {Rep : Nat → zF → Prop} {a : Array Value}
theorem zW.ends {S : Type} {RepS : S → Nat → zF → Prop} {u : S} (hW : zW D S0 (RepS u) s.heap H locs) : (∀ t : State, t.heap = H → zB D S0 RepS u t ∧ va_F (zA S0) s t) ∧ ∀ q ∈ locs, zA S0 q.base := by
  obtain ⟨f, hP, hd, hS, hR⟩ := hW
  exact ⟨fun t ht => ⟨⟨f, by rw [ht]; exact hP, hd, by rw [ht]; exact hR⟩, hS.F ht⟩, hS.2.2⟩
theorem z_iret {S : Type} {RepS : S → Nat → zF → Prop} {post : Int32 → S → Prop} {u : S} {v : Int32} (hx : p.tables.exec = Jvm.exec) (hb : c.code = cc) (hr : meth.sig.returnType = some .int) (hlocks : meth.locks = false) (hW : zW D S0 (RepS u) s.heap H locs) (hp : post v u) (hdg : decode cc pc = .ok (.ireturn, 1)) :
    W p l e R s m args below meth c H locs cells slots (MQ below (va_Qi post (zB D S0 RepS) (zA S0)) args s cells slots (zA S0)) (F0 m pc ls [.int v]) := by
  obtain ⟨h1, h2⟩ := hW.ends
  exact W.iret hx hb hr (fun t ht _ => ⟨⟨v, u, rfl, hp, (h1 t ht).1⟩, (h1 t ht).2⟩) h2 hdg hlocks
theorem z_zret {S : Type} {RepS : S → Nat → zF → Prop} {post : Int32 → S → Prop} {u : S} {v : Int32} (hx : p.tables.exec = Jvm.exec) (hb : c.code = cc) (hr : meth.sig.returnType = some .boolean) (hlocks : meth.locks = false) (hW : zW D S0 (RepS u) s.heap H locs) (hn : narrow .boolean (.int v) = .int v) (hp : post v u) (hdg : decode cc pc = .ok (.ireturn, 1)) :
    W p l e R s m args below meth c H locs cells slots (MQ below (va_Qi post (zB D S0 RepS) (zA S0)) args s cells slots (zA S0)) (F0 m pc ls [.int v]) := by
  obtain ⟨h1, h2⟩ := hW.ends
  exact W.zret hx hb hr hn (fun t ht _ => ⟨⟨v, u, rfl, hp, (h1 t ht).1⟩, (h1 t ht).2⟩) h2 hdg hlocks
theorem z_vret {S : Type} {RepS : S → Nat → zF → Prop} {post : S → Prop} {u : S} (hx : p.tables.exec = Jvm.exec) (hb : c.code = cc) (hr : meth.sig.returnType = none) (hlocks : meth.locks = false) (hW : zW D S0 (RepS u) s.heap H locs) (hp : post u) (hdg : decode cc pc = .ok (.return_, 1)) :
    W p l e R s m args below meth c H locs cells slots (MQ below (va_Qv post (zB D S0 RepS) (zA S0)) args s cells slots (zA S0)) (F0 m pc ls []) := by
  obtain ⟨h1, h2⟩ := hW.ends
  exact W.vret hx hb hr (fun t ht _ => ⟨⟨u, rfl, hp, (h1 t ht).1⟩, (h1 t ht).2⟩) h2 hdg hlocks
theorem z_aret {S : Type} {RepS : S → Nat → zF → Prop} {post : Option Nat → S → Prop} {u : S} {nm : String} (r : Option Nat) {v : Value} (hv : va_rf r = v) (hx : p.tables.exec = Jvm.exec) (hb : c.code = cc) (hr : meth.sig.returnType = some (.object nm)) (hlocks : meth.locks = false) (hW : zW D S0 (RepS u) s.heap H locs) (hp : post r u) (hdg : decode cc pc = .ok (.areturn, 1)) :
    W p l e R s m args below meth c H locs cells slots (MQ below (va_Qq post (zB D S0 RepS) (zA S0)) args s cells slots (zA S0)) (F0 m pc ls [v]) := by
  subst hv
  obtain ⟨h1, h2⟩ := hW.ends
  exact W.aret hx hb hr (Or.inl ⟨nm, rfl⟩) (va_rf_or r) (fun t ht _ => ⟨⟨r, u, rfl, hp, (h1 t ht).1⟩, (h1 t ht).2⟩) h2 hdg hlocks
/-- 'throw new E("text")' -/
theorem z_throw {S : Type} {RepS : S → Nat → zF → Prop} {QX : String → S → Prop} {Qc : Array Value → State → Outcome → State → Prop} {u : S} {rest : List Value} (hx : p.tables.exec = Jvm.exec) (hb : c.code = cc) (hl : l.stackTraces = false) {cls text : String} {ik is ic mc ms : Nat}
    (hown : s.vm.findClass RX5 = some m.cls) (hcls : Bundle.fit cls = true)
    (hk : (Cond.classLink RX5 ik cls).before args s = true) (hini : (Cond.initialized cls).before args s = true) (hstr : (is, text) ∈ zStr) (hat : ∀ w ∈ vx_atS RX5 ic cls ["java/lang/RuntimeException", "java/lang/Exception"], w.before args s = true)
    (hgood : ∀ w ∈ Cond.classLink RX5 ik cls :: Cond.initialized cls :: vx_atS RX5 ic cls ["java/lang/RuntimeException", "java/lang/Exception"], vx_ot w = true)
    (hE : zE D S0 s) (hW : zW D S0 (RepS u) s.heap H locs) (hmono : ∀ n n' f, RepS u n f → n ≤ n' → RepS u n' f) (hsize : ls.size = c.maxLocals)
    (d0 : decode cc pc = .ok (.new ik, 3)) (d3 : decode cc (pc + 3) = .ok (.dup, 1)) (d4 : decode cc (pc + 4) = .ok (.ldc is, 2)) (d6 : decode cc (pc + 6) = .ok (.invokespecial ic, 3)) (d9 : decode cc (pc + 9) = .ok (.athrow, 1))
    (hout : ∀ x ∈ c.exceptionTable.toList, False)
    (hRframes : 5 < R.frames) (hRlocals : (rest.map fun v => v.category).sum + 82 ≤ R.locals) (hRcells : cells + 1 ≤ R.cells) (hRslots : slots + 6 ≤ R.slots) (hlocks : meth.locks = false)
    (hp : QX cls u) (hc : cells + 1 ≤ mc) (hs : slots + 6 ≤ ms) :
    W p l e R s m args below meth c H locs cells slots (vx_MQ below Qc (zX D S0 RepS QX) args s mc ms (zA S0)) (F0 m pc ls rest) := by
  obtain ⟨f, hP, hd, hS, hR⟩ := hW
  obtain ⟨-, -, hU, hN, hT, -⟩ := hE
  obtain ⟨sa, hsa⟩ := hT _ hstr
  refine vx_throwS (names := ["java/lang/RuntimeException", "java/lang/Exception"]) hx hb hl hown hcls (by decide +kernel) hk hini hsa hat hgood hU hN hS hsize d0 d3 d4 d6 d9 (fun x h => (hout x h).elim) hRframes hRlocals hRcells hRslots hlocks (fun t hal hz hq => ?_) hS.2.2 hc hs
  refine ⟨u, trivial, ⟨hp, f, fun q e he => (hP q e he).kept (hq q (hP q e he).lt), hd, hmono _ _ _ hR hz⟩, Nat.le_trans hS.1 hz, fun q h1 h2 => ?_⟩
  rw [hq q (Nat.lt_of_lt_of_le h1 hS.1)]
  exact hS.2.1 q h1 h2
/-- a callee's exception that isn't caught here -/
theorem z_out {S : Type} {RepS : S → Nat → zF → Prop} {QX : String → S → Prop} {Qc : Array Value → State → Outcome → State → Prop} {u : S} {E : String} {ce : Cell} {q : Addr} {mc ms : Nat} {rest : List Value} (hout : ∀ x ∈ c.exceptionTable.toList, False) (hlocks : meth.locks = false) (hcell : H[q]? = some ce) (hv : ce.vm = .none) (hcl : s.vm.findClass E = some ce.cls) (hW : zW D S0 (RepS u) s.heap H locs) (hq : QX E u) (hc : cells ≤ mc) (hs : slots ≤ ms) :
    vx_W p l e R s m args below meth c H locs cells slots (vx_MQ below Qc (zX D S0 RepS QX) args s mc ms (zA S0)) (F0 m pc ls rest) q := by
  obtain ⟨f, hP, hd, hS, hR⟩ := hW
  refine vx_out (fun x h => (hout x h).elim) hlocks hcell hv hcl (fun t ht _ => ?_) hS.2.2 hc hs
  exact ⟨u, trivial, ⟨hq, f, by rw [ht]; exact hP, hd, by rw [ht]; exact hR⟩, hS.F ht⟩
end ZRet
def zBw (cls : String) : List Cond := [.castable cls cls, .declares ⟨"java/lang/RuntimeException", "<init>", "(Ljava/lang/String;)V"⟩, .declares ⟨"java/lang/Exception", "<init>", "(Ljava/lang/String;)V"⟩, .declares ⟨"java/lang/Throwable", "<init>", "(Ljava/lang/String;)V"⟩]
theorem vx_hatx {ws : List Cond} {args : Array Value} {s : State} {D : zD} {S0 ic : Nat} {cls : String} (hts : ∀ w ∈ ws, w.before args s = true) (hin : ∀ w ∈ (vx_atS RX5 ic cls ["java/lang/RuntimeException", "java/lang/Exception"]).filter goodWord, w ∈ ws) (hng : ∀ w ∈ (vx_atS RX5 ic cls ["java/lang/RuntimeException", "java/lang/Exception"]).filter (fun w => !goodWord w), w ∈ zBw cls) (hcl : cls ∈ zEx) (hE : zE D S0 s) : ∀ w ∈ vx_atS RX5 ic cls ["java/lang/RuntimeException", "java/lang/Exception"], w.before args s = true :=
  vx_hat (B := zBw cls) (fun w hw => hts w (hin w hw)) hng (vx_c (va_Nw.use rfl (hE.2.2.2.2.2.1 cls hcl)) (vx_c (va_Nw.use rfl (hE.2.2.2.2.2.2.1 _ (by decide))) (vx_c (va_Nw.use rfl (hE.2.2.2.2.2.2.1 _ (by decide))) (vx_c (va_Nw.use rfl (hE.2.2.2.2.2.2.1 _ (by decide))) vx_n))))
theorem vx_ng_a : ∀ w ∈ (vx_atS RX5 58 "java/lang/IllegalArgumentException" ["java/lang/RuntimeException", "java/lang/Exception"]).filter (fun w => !goodWord w), w ∈ zBw "java/lang/IllegalArgumentException" := by decide +kernel
theorem tab_out {x : Int32} {lo hi : Int} (h : ∀ i : Int, lo ≤ i → i ≤ hi → ¬ x.toInt = i) : x.toInt < lo ∨ hi < x.toInt := by
  by_cases h1 : x.toInt < lo
  · exact Or.inl h1
  · by_cases h2 : hi < x.toInt
    · exact Or.inr h2
    · exact absurd rfl (h x.toInt (by omega) (by omega))
theorem nar_z {r : Int32} (h : r = 0 ∨ r = 1) : narrow .boolean (.int r) = .int r := by
  rcases h with rfl | rfl <;> rfl
end
section
/-! THE CLASS' WORLD. k.1: ints by (key, place): 0 copyCount 1 requestCount 2 day 3 post.size (place 0); 4 debts 5 homeCopies 6 freeLoans (rows); 10.. a Copy's fields by its address; 20.. a Request's; 30.. a Sent's. k.2.1: references: 0 copies 1 requests 2 waiting (rows); 22 Request.copy; 32 Sent.copy 33 Sent.request. k.2.2: what lies at an address: 1 Copy, 3 Request, 4 Sent. -/
abbrev kS : Type := (Nat → Nat → Int32) × (Nat → Nat → Option Nat) × (Nat → Nat)
def kset (k : kS) (a i : Nat) (v : Int32) : kS := (fun b => if b = a then upd (k.1 b) i v else k.1 b, k.2)
def kptr (k : kS) (a i : Nat) (v : Option Nat) : kS := (k.1, fun b => if b = a then va_up (k.2.1 b) i v else k.2.1 b, k.2.2)
def knew (k : kS) (q t : Nat) : kS := (fun b => if 10 ≤ b then upd (k.1 b) q 0 else k.1 b, fun b => if 10 ≤ b then va_up (k.2.1 b) q none else k.2.1 b, va_up k.2.2 q t)
def xoU (S0 : Nat) (k : kS) : List Value := [.ref (S0 + 1), .ref (S0 + 2), .ref (S0 + 3), .ref (S0 + 5), .int (k.1 0 0), .int (k.1 1 0), .int (k.1 2 0)]
def xoP (S0 : Nat) (k : kS) : List Value := [.ref (S0 + 4), .int (k.1 3 0)]
def xoA (S0 : Nat) : List Value := [.ref (S0 + 6), .ref (S0 + 7), .ref (S0 + 8)]
def xoC (k : kS) (c : Nat) : List Value := [.int (k.1 10 c), .int (k.1 11 c), .int (k.1 12 c), .int (k.1 13 c), .int (k.1 14 c), .int (k.1 15 c), .int (k.1 16 c), .int (k.1 17 c)]
def xoR (k : kS) (c : Nat) : List Value := [.int (k.1 20 c), .int (k.1 21 c), va_rf (k.2.1 22 c), .int (k.1 23 c), .int (k.1 24 c), .int (k.1 25 c), .int (k.1 26 c)]
def xoS (k : kS) (c : Nat) : List Value := [.int (k.1 30 c), .int (k.1 31 c), va_rf (k.2.1 32 c), va_rf (k.2.1 33 c)]
def xE (D : zD) (S0 : Nat) (k : kS) : zF := fun q =>
  if q = S0 then some (.inr (5, xoU S0 k))
  else if q = S0 + 1 then some (.inl (D.2.2.1, 20, .inr (.inr (.inr (.inr (k.2.1 0))))))
  else if q = S0 + 2 then some (.inl (D.2.2.2.1, 40, .inr (.inr (.inr (.inr (k.2.1 1))))))
  else if q = S0 + 3 then some (.inr (2, xoP S0 k))
  else if q = S0 + 4 then some (.inl (D.2.2.2.2.1, 552, .inr (.inr (.inr (.inr (k.2.1 2))))))
  else if q = S0 + 5 then some (.inr (0, xoA S0))
  else if q = S0 + 6 then some (.inl (D.2.1, 36, .inl (k.1 4)))
  else if q = S0 + 7 then some (.inl (D.2.1, 6, .inl (k.1 5)))
  else if q = S0 + 8 then some (.inl (D.2.1, 6, .inl (k.1 6)))
  else if k.2.2 q = 1 then some (.inr (1, xoC k q))
  else if k.2.2 q = 3 then some (.inr (3, xoR k q))
  else if k.2.2 q = 4 then some (.inr (4, xoS k q))
  else none
def xF (D : zD) (S0 : Nat) (g : zF) (k : kS) : zF := fun q => if S0 + 9 ≤ q ∧ q < S0 + 30 then g q else xE D S0 k q
/-- references point to what their types say -/
def kT (k : kS) : Prop := (∀ i c, k.2.1 0 i = some c → k.2.2 c = 1) ∧ (∀ i c, k.2.1 1 i = some c → k.2.2 c = 3) ∧ (∀ i c, k.2.1 2 i = some c → k.2.2 c = 4) ∧ (∀ r c, k.2.2 r = 3 → k.2.1 22 r = some c → k.2.2 c = 1) ∧ (∀ r c, k.2.2 r = 4 → k.2.1 32 r = some c → k.2.2 c = 1) ∧ (∀ r c, k.2.2 r = 4 → k.2.1 33 r = some c → k.2.2 c = 3)
/-- what was there is there still -/
def kle (k0 k : kS) : Prop := ∀ a, k0.2.2 a ≠ 0 → k.2.2 a = k0.2.2 a
theorem kle_rf (k : kS) : kle k k := fun _ _ => rfl
theorem kle_tr {a b c : kS} (h1 : kle a b) (h2 : kle b c) : kle a c := fun q h => (h2 q (by rw [h1 q h]; exact h)).trans (h1 q h)
theorem kle_1 {a b : kS} {c : Nat} (h : kle a b) (hc : a.2.2 c = 1) : b.2.2 c = 1 := (h c (by rw [hc]; decide)).trans hc
theorem kle_3 {a b : kS} {c : Nat} (h : kle a b) (hc : a.2.2 c = 3) : b.2.2 c = 3 := (h c (by rw [hc]; decide)).trans hc
theorem kle_4 {a b : kS} {c : Nat} (h : kle a b) (hc : a.2.2 c = 4) : b.2.2 c = 4 := (h c (by rw [hc]; decide)).trans hc
def kL (S0 : Nat) (k : kS) : Prop := ∀ q, k.2.2 q ≠ 0 → S0 + 30 ≤ q ∧ (k.2.2 q = 1 ∨ k.2.2 q = 3 ∨ k.2.2 q = 4)
def xR (D : zD) (S0 : Nat) (g : zF) (k0 k : kS) (n : Nat) (f : zF) : Prop := f = xF D S0 g k ∧ S0 + 30 ≤ n ∧ kT k ∧ kL S0 k ∧ kle k0 k
section XW
variable {D : zD} {S0 : Nat} {g : zF} {k0 k : kS}
theorem xR_mono (n n' : Nat) (f : zF) (h : xR D S0 g k0 k n f) (hn : n ≤ n') : xR D S0 g k0 k n' f := ⟨h.1, Nat.le_trans h.2.1 hn, h.2.2⟩
theorem xR_tr {k1 : kS} (h : kle k0 k) (n : Nat) (f : zF) (h2 : xR D S0 g k k1 n f) : xR D S0 g k0 k1 n f := ⟨h2.1, h2.2.1, h2.2.2.1, h2.2.2.2.1, kle_tr h h2.2.2.2.2⟩
theorem xW_kle {H0 H : Heap} {locs : List Loc} (h : zW D S0 (xR D S0 g k0 k) H0 H locs) : kle k0 k := by
  obtain ⟨f, -, -, -, h4⟩ := h
  exact h4.2.2.2.2
theorem xW_T {H0 H : Heap} {locs : List Loc} (h : zW D S0 (xR D S0 g k0 k) H0 H locs) : kT k := by
  obtain ⟨f, -, -, -, h4⟩ := h
  exact h4.2.2.1
theorem xW_start {H0 H : Heap} {locs : List Loc} (h : zW D S0 (xR D S0 g k0 k) H0 H locs) : zW D S0 (xR D S0 g k k) H0 H locs := h.mono (fun n f q => ⟨q.1, q.2.1, q.2.2.1, q.2.2.2.1, kle_rf _⟩)
theorem xC_U (n : Nat) (f : zF) (h : xR D S0 g k0 k n f) : f (S0) = some (.inr (5, xoU S0 k)) := by
  rw [h.1]
  simp [xF, xE]
  intro hh
  omega
theorem xC_P (n : Nat) (f : zF) (h : xR D S0 g k0 k n f) : f (S0 + 3) = some (.inr (2, xoP S0 k)) := by
  rw [h.1]
  simp [xF, xE]
theorem xC_A (n : Nat) (f : zF) (h : xR D S0 g k0 k n f) : f (S0 + 5) = some (.inr (0, xoA S0)) := by
  rw [h.1]
  simp [xF, xE]
theorem xC_q0 (n : Nat) (f : zF) (h : xR D S0 g k0 k n f) : f (S0 + 1) = some (.inl (D.2.2.1, 20, .inr (.inr (.inr (.inr (k.2.1 0)))))) := by
  rw [h.1]
  simp [xF, xE]
theorem xC_q1 (n : Nat) (f : zF) (h : xR D S0 g k0 k n f) : f (S0 + 2) = some (.inl (D.2.2.2.1, 40, .inr (.inr (.inr (.inr (k.2.1 1)))))) := by
  rw [h.1]
  simp [xF, xE]
theorem xC_q2 (n : Nat) (f : zF) (h : xR D S0 g k0 k n f) : f (S0 + 4) = some (.inl (D.2.2.2.2.1, 552, .inr (.inr (.inr (.inr (k.2.1 2)))))) := by
  rw [h.1]
  simp [xF, xE]
theorem xC_a4 (n : Nat) (f : zF) (h : xR D S0 g k0 k n f) : f (S0 + 6) = some (.inl (D.2.1, 36, .inl (k.1 4))) := by
  rw [h.1]
  simp [xF, xE]
theorem xC_a5 (n : Nat) (f : zF) (h : xR D S0 g k0 k n f) : f (S0 + 7) = some (.inl (D.2.1, 6, .inl (k.1 5))) := by
  rw [h.1]
  simp [xF, xE]
theorem xC_a6 (n : Nat) (f : zF) (h : xR D S0 g k0 k n f) : f (S0 + 8) = some (.inl (D.2.1, 6, .inl (k.1 6))) := by
  rw [h.1]
  simp [xF, xE]
theorem xC_C {c : Nat} (hc : k.2.2 c = 1) (n : Nat) (f : zF) (h : xR D S0 g k0 k n f) : f c = some (.inr (1, xoC k c)) := by
  have hl := (h.2.2.2.1 c (by rw [hc]; decide)).1
  rw [h.1]
  simp only [xF, xE]
  rw [if_neg (by omega), if_neg (by omega), if_neg (by omega), if_neg (by omega), if_neg (by omega), if_neg (by omega), if_neg (by omega), if_neg (by omega), if_neg (by omega), if_neg (by omega)]
  simp [hc]
theorem xC_R {c : Nat} (hc : k.2.2 c = 3) (n : Nat) (f : zF) (h : xR D S0 g k0 k n f) : f c = some (.inr (3, xoR k c)) := by
  have hl := (h.2.2.2.1 c (by rw [hc]; decide)).1
  rw [h.1]
  simp only [xF, xE]
  rw [if_neg (by omega), if_neg (by omega), if_neg (by omega), if_neg (by omega), if_neg (by omega), if_neg (by omega), if_neg (by omega), if_neg (by omega), if_neg (by omega), if_neg (by omega)]
  simp [hc]
theorem xC_S {c : Nat} (hc : k.2.2 c = 4) (n : Nat) (f : zF) (h : xR D S0 g k0 k n f) : f c = some (.inr (4, xoS k c)) := by
  have hl := (h.2.2.2.1 c (by rw [hc]; decide)).1
  rw [h.1]
  simp only [xF, xE]
  rw [if_neg (by omega), if_neg (by omega), if_neg (by omega), if_neg (by omega), if_neg (by omega), if_neg (by omega), if_neg (by omega), if_neg (by omega), if_neg (by omega), if_neg (by omega)]
  simp [hc]
theorem xP_U4 {v : Int32} (n : Nat) (f : zF) (h : xR D S0 g k0 k n f) : xR D S0 g k0 (kset k 0 0 v) n (va_up f (S0) (some (.inr (5, (xoU S0 k).set 4 (.int v))))) := by
  refine ⟨?_, h.2.1, h.2.2.1, h.2.2.2.1, h.2.2.2.2⟩
  rw [h.1]
  funext q
  by_cases hq : q = S0
  · subst hq
    simp [xF, xE, xoU, xoP, xoA, xoC, xoR, xoS, kset, kptr, upd, va_up]
    intro hh
    omega
  · simp [xF, xE, xoU, xoP, xoA, xoC, xoR, xoS, kset, kptr, upd, va_up, hq]
theorem xP_U5 {v : Int32} (n : Nat) (f : zF) (h : xR D S0 g k0 k n f) : xR D S0 g k0 (kset k 1 0 v) n (va_up f (S0) (some (.inr (5, (xoU S0 k).set 5 (.int v))))) := by
  refine ⟨?_, h.2.1, h.2.2.1, h.2.2.2.1, h.2.2.2.2⟩
  rw [h.1]
  funext q
  by_cases hq : q = S0
  · subst hq
    simp [xF, xE, xoU, xoP, xoA, xoC, xoR, xoS, kset, kptr, upd, va_up]
    intro hh
    omega
  · simp [xF, xE, xoU, xoP, xoA, xoC, xoR, xoS, kset, kptr, upd, va_up, hq]
theorem xP_U6 {v : Int32} (n : Nat) (f : zF) (h : xR D S0 g k0 k n f) : xR D S0 g k0 (kset k 2 0 v) n (va_up f (S0) (some (.inr (5, (xoU S0 k).set 6 (.int v))))) := by
  refine ⟨?_, h.2.1, h.2.2.1, h.2.2.2.1, h.2.2.2.2⟩
  rw [h.1]
  funext q
  by_cases hq : q = S0
  · subst hq
    simp [xF, xE, xoU, xoP, xoA, xoC, xoR, xoS, kset, kptr, upd, va_up]
    intro hh
    omega
  · simp [xF, xE, xoU, xoP, xoA, xoC, xoR, xoS, kset, kptr, upd, va_up, hq]
theorem xP_P1 {v : Int32} (n : Nat) (f : zF) (h : xR D S0 g k0 k n f) : xR D S0 g k0 (kset k 3 0 v) n (va_up f (S0 + 3) (some (.inr (2, (xoP S0 k).set 1 (.int v))))) := by
  refine ⟨?_, h.2.1, h.2.2.1, h.2.2.2.1, h.2.2.2.2⟩
  rw [h.1]
  funext q
  by_cases hq : q = S0 + 3
  · subst hq
    simp [xF, xE, xoU, xoP, xoA, xoC, xoR, xoS, kset, kptr, upd, va_up]
  · simp [xF, xE, xoU, xoP, xoA, xoC, xoR, xoS, kset, kptr, upd, va_up, hq]
theorem xP_a4 {i : Nat} {v : Int32} (n : Nat) (f : zF) (h : xR D S0 g k0 k n f) : xR D S0 g k0 (kset k 4 i v) n (va_up f (S0 + 6) (some (.inl (D.2.1, 36, .inl (upd (k.1 4) i v))))) := by
  refine ⟨?_, h.2.1, h.2.2.1, h.2.2.2.1, h.2.2.2.2⟩
  rw [h.1]
  funext q
  by_cases hq : q = S0 + 6
  · subst hq
    simp [xF, xE, kset, va_up]
  · simp [xF, xE, xoU, xoP, xoA, xoC, xoR, xoS, kset, va_up, hq]
theorem xP_a5 {i : Nat} {v : Int32} (n : Nat) (f : zF) (h : xR D S0 g k0 k n f) : xR D S0 g k0 (kset k 5 i v) n (va_up f (S0 + 7) (some (.inl (D.2.1, 6, .inl (upd (k.1 5) i v))))) := by
  refine ⟨?_, h.2.1, h.2.2.1, h.2.2.2.1, h.2.2.2.2⟩
  rw [h.1]
  funext q
  by_cases hq : q = S0 + 7
  · subst hq
    simp [xF, xE, kset, va_up]
  · simp [xF, xE, xoU, xoP, xoA, xoC, xoR, xoS, kset, va_up, hq]
theorem xP_a6 {i : Nat} {v : Int32} (n : Nat) (f : zF) (h : xR D S0 g k0 k n f) : xR D S0 g k0 (kset k 6 i v) n (va_up f (S0 + 8) (some (.inl (D.2.1, 6, .inl (upd (k.1 6) i v))))) := by
  refine ⟨?_, h.2.1, h.2.2.1, h.2.2.2.1, h.2.2.2.2⟩
  rw [h.1]
  funext q
  by_cases hq : q = S0 + 8
  · subst hq
    simp [xF, xE, kset, va_up]
  · simp [xF, xE, xoU, xoP, xoA, xoC, xoR, xoS, kset, va_up, hq]
theorem xP_q0 {i : Nat} {v : Option Nat} (hv : ∀ c, v = some c → k.2.2 c = 1) (n : Nat) (f : zF) (h : xR D S0 g k0 k n f) : xR D S0 g k0 (kptr k 0 i v) n (va_up f (S0 + 1) (some (.inl (D.2.2.1, 20, .inr (.inr (.inr (.inr (va_up (k.2.1 0) i v)))))))) := by
  refine ⟨?_, h.2.1, ⟨?_, h.2.2.1.2.1, h.2.2.1.2.2.1, h.2.2.1.2.2.2.1, h.2.2.1.2.2.2.2.1, h.2.2.1.2.2.2.2.2⟩, h.2.2.2.1, h.2.2.2.2⟩
  · rw [h.1]
    funext q
    by_cases hq : q = S0 + 1
    · subst hq
      simp [xF, xE, kptr, va_up]
    · simp [xF, xE, xoU, xoP, xoA, xoC, xoR, xoS, kptr, va_up, hq]
  · intro j c hj
    have hj' : va_up (k.2.1 0) i v j = some c := hj
    by_cases hji : j = i
    · rw [hji, va_up_self] at hj'
      exact hv c hj'
    · rw [va_up_ne _ _ hji] at hj'
      exact h.2.2.1.1 j c hj'
theorem xP_q1 {i : Nat} {v : Option Nat} (hv : ∀ c, v = some c → k.2.2 c = 3) (n : Nat) (f : zF) (h : xR D S0 g k0 k n f) : xR D S0 g k0 (kptr k 1 i v) n (va_up f (S0 + 2) (some (.inl (D.2.2.2.1, 40, .inr (.inr (.inr (.inr (va_up (k.2.1 1) i v)))))))) := by
  refine ⟨?_, h.2.1, ⟨h.2.2.1.1, ?_, h.2.2.1.2.2.1, h.2.2.1.2.2.2.1, h.2.2.1.2.2.2.2.1, h.2.2.1.2.2.2.2.2⟩, h.2.2.2.1, h.2.2.2.2⟩
  · rw [h.1]
    funext q
    by_cases hq : q = S0 + 2
    · subst hq
      simp [xF, xE, kptr, va_up]
    · simp [xF, xE, xoU, xoP, xoA, xoC, xoR, xoS, kptr, va_up, hq]
  · intro j c hj
    have hj' : va_up (k.2.1 1) i v j = some c := hj
    by_cases hji : j = i
    · rw [hji, va_up_self] at hj'
      exact hv c hj'
    · rw [va_up_ne _ _ hji] at hj'
      exact h.2.2.1.2.1 j c hj'
theorem xP_q2 {i : Nat} {v : Option Nat} (hv : ∀ c, v = some c → k.2.2 c = 4) (n : Nat) (f : zF) (h : xR D S0 g k0 k n f) : xR D S0 g k0 (kptr k 2 i v) n (va_up f (S0 + 4) (some (.inl (D.2.2.2.2.1, 552, .inr (.inr (.inr (.inr (va_up (k.2.1 2) i v)))))))) := by
  refine ⟨?_, h.2.1, ⟨h.2.2.1.1, h.2.2.1.2.1, ?_, h.2.2.1.2.2.2.1, h.2.2.1.2.2.2.2.1, h.2.2.1.2.2.2.2.2⟩, h.2.2.2.1, h.2.2.2.2⟩
  · rw [h.1]
    funext q
    by_cases hq : q = S0 + 4
    · subst hq
      simp [xF, xE, kptr, va_up]
    · simp [xF, xE, xoU, xoP, xoA, xoC, xoR, xoS, kptr, va_up, hq]
  · intro j c hj
    have hj' : va_up (k.2.1 2) i v j = some c := hj
    by_cases hji : j = i
    · rw [hji, va_up_self] at hj'
      exact hv c hj'
    · rw [va_up_ne _ _ hji] at hj'
      exact h.2.2.1.2.2.1 j c hj'
theorem xP_C0 {c : Nat} {v : Int32} (hc : k.2.2 c = 1) (n : Nat) (f : zF) (h : xR D S0 g k0 k n f) : xR D S0 g k0 (kset k 10 c v) n (va_up f c (some (.inr (1, (xoC k c).set 0 (.int v))))) := by
  have hl := (h.2.2.2.1 c (by rw [hc]; decide)).1
  refine ⟨?_, h.2.1, h.2.2.1, h.2.2.2.1, h.2.2.2.2⟩
  rw [h.1]
  funext q
  by_cases hq : q = c
  · subst hq
    rw [va_up_self]
    simp only [xF, xE]
    rw [if_neg (by omega), if_neg (by omega), if_neg (by omega), if_neg (by omega), if_neg (by omega), if_neg (by omega), if_neg (by omega), if_neg (by omega), if_neg (by omega), if_neg (by omega)]
    simp [xF, xE, xoU, xoP, xoA, xoC, xoR, xoS, kset, kptr, upd, va_up, hc]
  · simp [xF, xE, xoU, xoP, xoA, xoC, xoR, xoS, kset, kptr, upd, va_up, hq]
theorem xP_C1 {c : Nat} {v : Int32} (hc : k.2.2 c = 1) (n : Nat) (f : zF) (h : xR D S0 g k0 k n f) : xR D S0 g k0 (kset k 11 c v) n (va_up f c (some (.inr (1, (xoC k c).set 1 (.int v))))) := by
  have hl := (h.2.2.2.1 c (by rw [hc]; decide)).1
  refine ⟨?_, h.2.1, h.2.2.1, h.2.2.2.1, h.2.2.2.2⟩
  rw [h.1]
  funext q
  by_cases hq : q = c
  · subst hq
    rw [va_up_self]
    simp only [xF, xE]
    rw [if_neg (by omega), if_neg (by omega), if_neg (by omega), if_neg (by omega), if_neg (by omega), if_neg (by omega), if_neg (by omega), if_neg (by omega), if_neg (by omega), if_neg (by omega)]
    simp [xF, xE, xoU, xoP, xoA, xoC, xoR, xoS, kset, kptr, upd, va_up, hc]
  · simp [xF, xE, xoU, xoP, xoA, xoC, xoR, xoS, kset, kptr, upd, va_up, hq]
theorem xP_C2 {c : Nat} {v : Int32} (hc : k.2.2 c = 1) (n : Nat) (f : zF) (h : xR D S0 g k0 k n f) : xR D S0 g k0 (kset k 12 c v) n (va_up f c (some (.inr (1, (xoC k c).set 2 (.int v))))) := by
  have hl := (h.2.2.2.1 c (by rw [hc]; decide)).1
  refine ⟨?_, h.2.1, h.2.2.1, h.2.2.2.1, h.2.2.2.2⟩
  rw [h.1]
  funext q
  by_cases hq : q = c
  · subst hq
    rw [va_up_self]
    simp only [xF, xE]
    rw [if_neg (by omega), if_neg (by omega), if_neg (by omega), if_neg (by omega), if_neg (by omega), if_neg (by omega), if_neg (by omega), if_neg (by omega), if_neg (by omega), if_neg (by omega)]
    simp [xF, xE, xoU, xoP, xoA, xoC, xoR, xoS, kset, kptr, upd, va_up, hc]
  · simp [xF, xE, xoU, xoP, xoA, xoC, xoR, xoS, kset, kptr, upd, va_up, hq]
theorem xP_C3 {c : Nat} {v : Int32} (hc : k.2.2 c = 1) (n : Nat) (f : zF) (h : xR D S0 g k0 k n f) : xR D S0 g k0 (kset k 13 c v) n (va_up f c (some (.inr (1, (xoC k c).set 3 (.int v))))) := by
  have hl := (h.2.2.2.1 c (by rw [hc]; decide)).1
  refine ⟨?_, h.2.1, h.2.2.1, h.2.2.2.1, h.2.2.2.2⟩
  rw [h.1]
  funext q
  by_cases hq : q = c
  · subst hq
    rw [va_up_self]
    simp only [xF, xE]
    rw [if_neg (by omega), if_neg (by omega), if_neg (by omega), if_neg (by omega), if_neg (by omega), if_neg (by omega), if_neg (by omega), if_neg (by omega), if_neg (by omega), if_neg (by omega)]
    simp [xF, xE, xoU, xoP, xoA, xoC, xoR, xoS, kset, kptr, upd, va_up, hc]
  · simp [xF, xE, xoU, xoP, xoA, xoC, xoR, xoS, kset, kptr, upd, va_up, hq]
theorem xP_C4 {c : Nat} {v : Int32} (hc : k.2.2 c = 1) (n : Nat) (f : zF) (h : xR D S0 g k0 k n f) : xR D S0 g k0 (kset k 14 c v) n (va_up f c (some (.inr (1, (xoC k c).set 4 (.int v))))) := by
  have hl := (h.2.2.2.1 c (by rw [hc]; decide)).1
  refine ⟨?_, h.2.1, h.2.2.1, h.2.2.2.1, h.2.2.2.2⟩
  rw [h.1]
  funext q
  by_cases hq : q = c
  · subst hq
    rw [va_up_self]
    simp only [xF, xE]
    rw [if_neg (by omega), if_neg (by omega), if_neg (by omega), if_neg (by omega), if_neg (by omega), if_neg (by omega), if_neg (by omega), if_neg (by omega), if_neg (by omega), if_neg (by omega)]
    simp [xF, xE, xoU, xoP, xoA, xoC, xoR, xoS, kset, kptr, upd, va_up, hc]
  · simp [xF, xE, xoU, xoP, xoA, xoC, xoR, xoS, kset, kptr, upd, va_up, hq]
theorem xP_C5 {c : Nat} {v : Int32} (hc : k.2.2 c = 1) (n : Nat) (f : zF) (h : xR D S0 g k0 k n f) : xR D S0 g k0 (kset k 15 c v) n (va_up f c (some (.inr (1, (xoC k c).set 5 (.int v))))) := by
  have hl := (h.2.2.2.1 c (by rw [hc]; decide)).1
  refine ⟨?_, h.2.1, h.2.2.1, h.2.2.2.1, h.2.2.2.2⟩
  rw [h.1]
  funext q
  by_cases hq : q = c
  · subst hq
    rw [va_up_self]
    simp only [xF, xE]
    rw [if_neg (by omega), if_neg (by omega), if_neg (by omega), if_neg (by omega), if_neg (by omega), if_neg (by omega), if_neg (by omega), if_neg (by omega), if_neg (by omega), if_neg (by omega)]
    simp [xF, xE, xoU, xoP, xoA, xoC, xoR, xoS, kset, kptr, upd, va_up, hc]
  · simp [xF, xE, xoU, xoP, xoA, xoC, xoR, xoS, kset, kptr, upd, va_up, hq]
theorem xP_C6 {c : Nat} {v : Int32} (hc : k.2.2 c = 1) (n : Nat) (f : zF) (h : xR D S0 g k0 k n f) : xR D S0 g k0 (kset k 16 c v) n (va_up f c (some (.inr (1, (xoC k c).set 6 (.int v))))) := by
  have hl := (h.2.2.2.1 c (by rw [hc]; decide)).1
  refine ⟨?_, h.2.1, h.2.2.1, h.2.2.2.1, h.2.2.2.2⟩
  rw [h.1]
  funext q
  by_cases hq : q = c
  · subst hq
    rw [va_up_self]
    simp only [xF, xE]
    rw [if_neg (by omega), if_neg (by omega), if_neg (by omega), if_neg (by omega), if_neg (by omega), if_neg (by omega), if_neg (by omega), if_neg (by omega), if_neg (by omega), if_neg (by omega)]
    simp [xF, xE, xoU, xoP, xoA, xoC, xoR, xoS, kset, kptr, upd, va_up, hc]
  · simp [xF, xE, xoU, xoP, xoA, xoC, xoR, xoS, kset, kptr, upd, va_up, hq]
theorem xP_C7 {c : Nat} {v : Int32} (hc : k.2.2 c = 1) (n : Nat) (f : zF) (h : xR D S0 g k0 k n f) : xR D S0 g k0 (kset k 17 c v) n (va_up f c (some (.inr (1, (xoC k c).set 7 (.int v))))) := by
  have hl := (h.2.2.2.1 c (by rw [hc]; decide)).1
  refine ⟨?_, h.2.1, h.2.2.1, h.2.2.2.1, h.2.2.2.2⟩
  rw [h.1]
  funext q
  by_cases hq : q = c
  · subst hq
    rw [va_up_self]
    simp only [xF, xE]
    rw [if_neg (by omega), if_neg (by omega), if_neg (by omega), if_neg (by omega), if_neg (by omega), if_neg (by omega), if_neg (by omega), if_neg (by omega), if_neg (by omega), if_neg (by omega)]
    simp [xF, xE, xoU, xoP, xoA, xoC, xoR, xoS, kset, kptr, upd, va_up, hc]
  · simp [xF, xE, xoU, xoP, xoA, xoC, xoR, xoS, kset, kptr, upd, va_up, hq]
theorem xP_R0 {c : Nat} {v : Int32} (hc : k.2.2 c = 3) (n : Nat) (f : zF) (h : xR D S0 g k0 k n f) : xR D S0 g k0 (kset k 20 c v) n (va_up f c (some (.inr (3, (xoR k c).set 0 (.int v))))) := by
  have hl := (h.2.2.2.1 c (by rw [hc]; decide)).1
  refine ⟨?_, h.2.1, h.2.2.1, h.2.2.2.1, h.2.2.2.2⟩
  rw [h.1]
  funext q
  by_cases hq : q = c
  · subst hq
    rw [va_up_self]
    simp only [xF, xE]
    rw [if_neg (by omega), if_neg (by omega), if_neg (by omega), if_neg (by omega), if_neg (by omega), if_neg (by omega), if_neg (by omega), if_neg (by omega), if_neg (by omega), if_neg (by omega)]
    simp [xF, xE, xoU, xoP, xoA, xoC, xoR, xoS, kset, kptr, upd, va_up, hc]
  · simp [xF, xE, xoU, xoP, xoA, xoC, xoR, xoS, kset, kptr, upd, va_up, hq]
theorem xP_R1 {c : Nat} {v : Int32} (hc : k.2.2 c = 3) (n : Nat) (f : zF) (h : xR D S0 g k0 k n f) : xR D S0 g k0 (kset k 21 c v) n (va_up f c (some (.inr (3, (xoR k c).set 1 (.int v))))) := by
  have hl := (h.2.2.2.1 c (by rw [hc]; decide)).1
  refine ⟨?_, h.2.1, h.2.2.1, h.2.2.2.1, h.2.2.2.2⟩
  rw [h.1]
  funext q
  by_cases hq : q = c
  · subst hq
    rw [va_up_self]
    simp only [xF, xE]
    rw [if_neg (by omega), if_neg (by omega), if_neg (by omega), if_neg (by omega), if_neg (by omega), if_neg (by omega), if_neg (by omega), if_neg (by omega), if_neg (by omega), if_neg (by omega)]
    simp [xF, xE, xoU, xoP, xoA, xoC, xoR, xoS, kset, kptr, upd, va_up, hc]
  · simp [xF, xE, xoU, xoP, xoA, xoC, xoR, xoS, kset, kptr, upd, va_up, hq]
theorem xP_R3 {c : Nat} {v : Int32} (hc : k.2.2 c = 3) (n : Nat) (f : zF) (h : xR D S0 g k0 k n f) : xR D S0 g k0 (kset k 23 c v) n (va_up f c (some (.inr (3, (xoR k c).set 3 (.int v))))) := by
  have hl := (h.2.2.2.1 c (by rw [hc]; decide)).1
  refine ⟨?_, h.2.1, h.2.2.1, h.2.2.2.1, h.2.2.2.2⟩
  rw [h.1]
  funext q
  by_cases hq : q = c
  · subst hq
    rw [va_up_self]
    simp only [xF, xE]
    rw [if_neg (by omega), if_neg (by omega), if_neg (by omega), if_neg (by omega), if_neg (by omega), if_neg (by omega), if_neg (by omega), if_neg (by omega), if_neg (by omega), if_neg (by omega)]
    simp [xF, xE, xoU, xoP, xoA, xoC, xoR, xoS, kset, kptr, upd, va_up, hc]
  · simp [xF, xE, xoU, xoP, xoA, xoC, xoR, xoS, kset, kptr, upd, va_up, hq]
theorem xP_R4 {c : Nat} {v : Int32} (hc : k.2.2 c = 3) (n : Nat) (f : zF) (h : xR D S0 g k0 k n f) : xR D S0 g k0 (kset k 24 c v) n (va_up f c (some (.inr (3, (xoR k c).set 4 (.int v))))) := by
  have hl := (h.2.2.2.1 c (by rw [hc]; decide)).1
  refine ⟨?_, h.2.1, h.2.2.1, h.2.2.2.1, h.2.2.2.2⟩
  rw [h.1]
  funext q
  by_cases hq : q = c
  · subst hq
    rw [va_up_self]
    simp only [xF, xE]
    rw [if_neg (by omega), if_neg (by omega), if_neg (by omega), if_neg (by omega), if_neg (by omega), if_neg (by omega), if_neg (by omega), if_neg (by omega), if_neg (by omega), if_neg (by omega)]
    simp [xF, xE, xoU, xoP, xoA, xoC, xoR, xoS, kset, kptr, upd, va_up, hc]
  · simp [xF, xE, xoU, xoP, xoA, xoC, xoR, xoS, kset, kptr, upd, va_up, hq]
theorem xP_R5 {c : Nat} {v : Int32} (hc : k.2.2 c = 3) (n : Nat) (f : zF) (h : xR D S0 g k0 k n f) : xR D S0 g k0 (kset k 25 c v) n (va_up f c (some (.inr (3, (xoR k c).set 5 (.int v))))) := by
  have hl := (h.2.2.2.1 c (by rw [hc]; decide)).1
  refine ⟨?_, h.2.1, h.2.2.1, h.2.2.2.1, h.2.2.2.2⟩
  rw [h.1]
  funext q
  by_cases hq : q = c
  · subst hq
    rw [va_up_self]
    simp only [xF, xE]
    rw [if_neg (by omega), if_neg (by omega), if_neg (by omega), if_neg (by omega), if_neg (by omega), if_neg (by omega), if_neg (by omega), if_neg (by omega), if_neg (by omega), if_neg (by omega)]
    simp [xF, xE, xoU, xoP, xoA, xoC, xoR, xoS, kset, kptr, upd, va_up, hc]
  · simp [xF, xE, xoU, xoP, xoA, xoC, xoR, xoS, kset, kptr, upd, va_up, hq]
theorem xP_R6 {c : Nat} {v : Int32} (hc : k.2.2 c = 3) (n : Nat) (f : zF) (h : xR D S0 g k0 k n f) : xR D S0 g k0 (kset k 26 c v) n (va_up f c (some (.inr (3, (xoR k c).set 6 (.int v))))) := by
  have hl := (h.2.2.2.1 c (by rw [hc]; decide)).1
  refine ⟨?_, h.2.1, h.2.2.1, h.2.2.2.1, h.2.2.2.2⟩
  rw [h.1]
  funext q
  by_cases hq : q = c
  · subst hq
    rw [va_up_self]
    simp only [xF, xE]
    rw [if_neg (by omega), if_neg (by omega), if_neg (by omega), if_neg (by omega), if_neg (by omega), if_neg (by omega), if_neg (by omega), if_neg (by omega), if_neg (by omega), if_neg (by omega)]
    simp [xF, xE, xoU, xoP, xoA, xoC, xoR, xoS, kset, kptr, upd, va_up, hc]
  · simp [xF, xE, xoU, xoP, xoA, xoC, xoR, xoS, kset, kptr, upd, va_up, hq]
theorem xP_S0 {c : Nat} {v : Int32} (hc : k.2.2 c = 4) (n : Nat) (f : zF) (h : xR D S0 g k0 k n f) : xR D S0 g k0 (kset k 30 c v) n (va_up f c (some (.inr (4, (xoS k c).set 0 (.int v))))) := by
  have hl := (h.2.2.2.1 c (by rw [hc]; decide)).1
  refine ⟨?_, h.2.1, h.2.2.1, h.2.2.2.1, h.2.2.2.2⟩
  rw [h.1]
  funext q
  by_cases hq : q = c
  · subst hq
    rw [va_up_self]
    simp only [xF, xE]
    rw [if_neg (by omega), if_neg (by omega), if_neg (by omega), if_neg (by omega), if_neg (by omega), if_neg (by omega), if_neg (by omega), if_neg (by omega), if_neg (by omega), if_neg (by omega)]
    simp [xF, xE, xoU, xoP, xoA, xoC, xoR, xoS, kset, kptr, upd, va_up, hc]
  · simp [xF, xE, xoU, xoP, xoA, xoC, xoR, xoS, kset, kptr, upd, va_up, hq]
theorem xP_S1 {c : Nat} {v : Int32} (hc : k.2.2 c = 4) (n : Nat) (f : zF) (h : xR D S0 g k0 k n f) : xR D S0 g k0 (kset k 31 c v) n (va_up f c (some (.inr (4, (xoS k c).set 1 (.int v))))) := by
  have hl := (h.2.2.2.1 c (by rw [hc]; decide)).1
  refine ⟨?_, h.2.1, h.2.2.1, h.2.2.2.1, h.2.2.2.2⟩
  rw [h.1]
  funext q
  by_cases hq : q = c
  · subst hq
    rw [va_up_self]
    simp only [xF, xE]
    rw [if_neg (by omega), if_neg (by omega), if_neg (by omega), if_neg (by omega), if_neg (by omega), if_neg (by omega), if_neg (by omega), if_neg (by omega), if_neg (by omega), if_neg (by omega)]
    simp [xF, xE, xoU, xoP, xoA, xoC, xoR, xoS, kset, kptr, upd, va_up, hc]
  · simp [xF, xE, xoU, xoP, xoA, xoC, xoR, xoS, kset, kptr, upd, va_up, hq]
theorem xP_R2 {c : Nat} {v : Option Nat} (hc : k.2.2 c = 3) (hv : ∀ b, v = some b → k.2.2 b = 1) (n : Nat) (f : zF) (h : xR D S0 g k0 k n f) : xR D S0 g k0 (kptr k 22 c v) n (va_up f c (some (.inr (3, (xoR k c).set 2 (va_rf v))))) := by
  have hl := (h.2.2.2.1 c (by rw [hc]; decide)).1
  refine ⟨?_, h.2.1, ⟨h.2.2.1.1, h.2.2.1.2.1, h.2.2.1.2.2.1, ?_, h.2.2.1.2.2.2.2.1, h.2.2.1.2.2.2.2.2⟩, h.2.2.2.1, h.2.2.2.2⟩
  · rw [h.1]
    funext q
    by_cases hq : q = c
    · subst hq
      rw [va_up_self]
      simp only [xF, xE]
      rw [if_neg (by omega), if_neg (by omega), if_neg (by omega), if_neg (by omega), if_neg (by omega), if_neg (by omega), if_neg (by omega), if_neg (by omega), if_neg (by omega), if_neg (by omega)]
      simp [xF, xE, xoU, xoP, xoA, xoC, xoR, xoS, kset, kptr, upd, va_up, hc]
    · simp [xF, xE, xoU, xoP, xoA, xoC, xoR, xoS, kset, kptr, upd, va_up, hq]
  · intro j b hj1 hj
    have hj' : va_up (k.2.1 22) c v j = some b := hj
    by_cases hji : j = c
    · rw [hji, va_up_self] at hj'
      exact hv b hj'
    · rw [va_up_ne _ _ hji] at hj'
      exact h.2.2.1.2.2.2.1 j b hj1 hj'
theorem xP_S2 {c : Nat} {v : Option Nat} (hc : k.2.2 c = 4) (hv : ∀ b, v = some b → k.2.2 b = 1) (n : Nat) (f : zF) (h : xR D S0 g k0 k n f) : xR D S0 g k0 (kptr k 32 c v) n (va_up f c (some (.inr (4, (xoS k c).set 2 (va_rf v))))) := by
  have hl := (h.2.2.2.1 c (by rw [hc]; decide)).1
  refine ⟨?_, h.2.1, ⟨h.2.2.1.1, h.2.2.1.2.1, h.2.2.1.2.2.1, h.2.2.1.2.2.2.1, ?_, h.2.2.1.2.2.2.2.2⟩, h.2.2.2.1, h.2.2.2.2⟩
  · rw [h.1]
    funext q
    by_cases hq : q = c
    · subst hq
      rw [va_up_self]
      simp only [xF, xE]
      rw [if_neg (by omega), if_neg (by omega), if_neg (by omega), if_neg (by omega), if_neg (by omega), if_neg (by omega), if_neg (by omega), if_neg (by omega), if_neg (by omega), if_neg (by omega)]
      simp [xF, xE, xoU, xoP, xoA, xoC, xoR, xoS, kset, kptr, upd, va_up, hc]
    · simp [xF, xE, xoU, xoP, xoA, xoC, xoR, xoS, kset, kptr, upd, va_up, hq]
  · intro j b hj1 hj
    have hj' : va_up (k.2.1 32) c v j = some b := hj
    by_cases hji : j = c
    · rw [hji, va_up_self] at hj'
      exact hv b hj'
    · rw [va_up_ne _ _ hji] at hj'
      exact h.2.2.1.2.2.2.2.1 j b hj1 hj'
theorem xP_S3 {c : Nat} {v : Option Nat} (hc : k.2.2 c = 4) (hv : ∀ b, v = some b → k.2.2 b = 3) (n : Nat) (f : zF) (h : xR D S0 g k0 k n f) : xR D S0 g k0 (kptr k 33 c v) n (va_up f c (some (.inr (4, (xoS k c).set 3 (va_rf v))))) := by
  have hl := (h.2.2.2.1 c (by rw [hc]; decide)).1
  refine ⟨?_, h.2.1, ⟨h.2.2.1.1, h.2.2.1.2.1, h.2.2.1.2.2.1, h.2.2.1.2.2.2.1, h.2.2.1.2.2.2.2.1, ?_⟩, h.2.2.2.1, h.2.2.2.2⟩
  · rw [h.1]
    funext q
    by_cases hq : q = c
    · subst hq
      rw [va_up_self]
      simp only [xF, xE]
      rw [if_neg (by omega), if_neg (by omega), if_neg (by omega), if_neg (by omega), if_neg (by omega), if_neg (by omega), if_neg (by omega), if_neg (by omega), if_neg (by omega), if_neg (by omega)]
      simp [xF, xE, xoU, xoP, xoA, xoC, xoR, xoS, kset, kptr, upd, va_up, hc]
    · simp [xF, xE, xoU, xoP, xoA, xoC, xoR, xoS, kset, kptr, upd, va_up, hq]
  · intro j b hj1 hj
    have hj' : va_up (k.2.1 33) c v j = some b := hj
    by_cases hji : j = c
    · rw [hji, va_up_self] at hj'
      exact hv b hj'
    · rw [va_up_ne _ _ hji] at hj'
      exact h.2.2.1.2.2.2.2.2 j b hj1 hj'
theorem kT_new {q t : Nat} (h : kT k) (h0 : k.2.2 q = 0) : kT (knew k q t) := by
  have up : ∀ c, k.2.2 c ≠ 0 → (knew k q t).2.2 c = k.2.2 c := fun c hc => va_up_ne _ _ (fun e => hc (by rw [e]; exact h0))
  have hi : ∀ (a i c : Nat), 10 ≤ a → (knew k q t).2.1 a i = some c → i ≠ q ∧ k.2.1 a i = some c := by
    intro a i c ha hj
    simp only [knew, ha, if_true] at hj
    by_cases hji : i = q
    · rw [hji, va_up_self] at hj
      cases hj
    · rw [va_up_ne _ _ hji] at hj
      exact ⟨hji, hj⟩
  have kd : ∀ r, r ≠ q → (knew k q t).2.2 r = k.2.2 r := fun r hr => va_up_ne _ _ hr
  refine ⟨fun i c hj => ?_, fun i c hj => ?_, fun i c hj => ?_, fun i c hr hj => ?_, fun i c hr hj => ?_, fun i c hr hj => ?_⟩
  · have h2 := h.1 i c hj
    rw [up c (by rw [h2]; decide)]; exact h2
  · have h2 := h.2.1 i c hj
    rw [up c (by rw [h2]; decide)]; exact h2
  · have h2 := h.2.2.1 i c hj
    rw [up c (by rw [h2]; decide)]; exact h2
  · obtain ⟨n1, n2⟩ := hi 22 i c (by decide) hj
    have h2 := h.2.2.2.1 i c (by rw [← kd i n1]; exact hr) n2
    rw [up c (by rw [h2]; decide)]; exact h2
  · obtain ⟨n1, n2⟩ := hi 32 i c (by decide) hj
    have h2 := h.2.2.2.2.1 i c (by rw [← kd i n1]; exact hr) n2
    rw [up c (by rw [h2]; decide)]; exact h2
  · obtain ⟨n1, n2⟩ := hi 33 i c (by decide) hj
    have h2 := h.2.2.2.2.2 i c (by rw [← kd i n1]; exact hr) n2
    rw [up c (by rw [h2]; decide)]; exact h2
theorem kL_new {q t : Nat} (h : kL S0 k) (hq : S0 + 30 ≤ q) (ht : t = 1 ∨ t = 3 ∨ t = 4) : kL S0 (knew k q t) := by
  intro c hc
  by_cases hcq : c = q
  · subst hcq
    have e : (knew k c t).2.2 c = t := va_up_self _ _ _
    rw [e]
    exact ⟨hq, ht⟩
  · have e : (knew k q t).2.2 c = k.2.2 c := va_up_ne _ _ hcq
    rw [e] at hc ⊢
    exact h c hc
theorem kle_new {q t : Nat} (h : kle k0 k) (h0 : k.2.2 q = 0) : kle k0 (knew k q t) := by
  intro c hc
  have h1 := h c hc
  have hcq : c ≠ q := fun e => hc (by rw [← h1, e]; exact h0)
  exact (va_up_ne _ _ hcq).trans h1
theorem k_fresh {q n : Nat} {f : zF} (h : xR D S0 g k0 k n f) (hn : f q = none) : k.2.2 q = 0 := by
  by_cases h0 : k.2.2 q = 0
  · exact h0
  · rcases (h.2.2.2.1 q h0).2 with e | e | e
    · rw [xC_C e n f h] at hn; cases hn
    · rw [xC_R e n f h] at hn; cases hn
    · rw [xC_S e n f h] at hn; cases hn
theorem xN_C {q n : Nat} {f' : zF} (hq : S0 + 30 ≤ q) (h0 : k.2.2 q = 0) (h : ∃ f, xR D S0 g k0 k q f ∧ f q = none ∧ n = q + 1 ∧ f' = va_up f q (some (.inr (1, [.int 0, .int 0, .int 0, .int 0, .int 0, .int 0, .int 0, .int 0])))) : xR D S0 g k0 (knew k q 1) n f' := by
  obtain ⟨f, h, hn, rfl, rfl⟩ := h
  refine ⟨?_, by omega, kT_new h.2.2.1 h0, kL_new h.2.2.2.1 hq (by decide), kle_new h.2.2.2.2 h0⟩
  rw [h.1]
  funext a
  by_cases ha : a = q
  · subst ha
    rw [va_up_self]
    simp only [xF, xE]
    rw [if_neg (by omega), if_neg (by omega), if_neg (by omega), if_neg (by omega), if_neg (by omega), if_neg (by omega), if_neg (by omega), if_neg (by omega), if_neg (by omega), if_neg (by omega)]
    simp [xoC, knew, upd, va_up, va_rf]
  · simp [xF, xE, xoU, xoP, xoA, xoC, xoR, xoS, knew, upd, va_up, ha]
theorem xN_R {q n : Nat} {f' : zF} (hq : S0 + 30 ≤ q) (h0 : k.2.2 q = 0) (h : ∃ f, xR D S0 g k0 k q f ∧ f q = none ∧ n = q + 1 ∧ f' = va_up f q (some (.inr (3, [.int 0, .int 0, .null, .int 0, .int 0, .int 0, .int 0])))) : xR D S0 g k0 (knew k q 3) n f' := by
  obtain ⟨f, h, hn, rfl, rfl⟩ := h
  refine ⟨?_, by omega, kT_new h.2.2.1 h0, kL_new h.2.2.2.1 hq (by decide), kle_new h.2.2.2.2 h0⟩
  rw [h.1]
  funext a
  by_cases ha : a = q
  · subst ha
    rw [va_up_self]
    simp only [xF, xE]
    rw [if_neg (by omega), if_neg (by omega), if_neg (by omega), if_neg (by omega), if_neg (by omega), if_neg (by omega), if_neg (by omega), if_neg (by omega), if_neg (by omega), if_neg (by omega)]
    simp [xoR, knew, upd, va_up, va_rf]
  · simp [xF, xE, xoU, xoP, xoA, xoC, xoR, xoS, knew, upd, va_up, ha]
theorem xN_S {q n : Nat} {f' : zF} (hq : S0 + 30 ≤ q) (h0 : k.2.2 q = 0) (h : ∃ f, xR D S0 g k0 k q f ∧ f q = none ∧ n = q + 1 ∧ f' = va_up f q (some (.inr (4, [.int 0, .int 0, .null, .null])))) : xR D S0 g k0 (knew k q 4) n f' := by
  obtain ⟨f, h, hn, rfl, rfl⟩ := h
  refine ⟨?_, by omega, kT_new h.2.2.1 h0, kL_new h.2.2.2.1 hq (by decide), kle_new h.2.2.2.2 h0⟩
  rw [h.1]
  funext a
  by_cases ha : a = q
  · subst ha
    rw [va_up_self]
    simp only [xF, xE]
    rw [if_neg (by omega), if_neg (by omega), if_neg (by omega), if_neg (by omega), if_neg (by omega), if_neg (by omega), if_neg (by omega), if_neg (by omega), if_neg (by omega), if_neg (by omega)]
    simp [xoS, knew, upd, va_up, va_rf]
  · simp [xF, xE, xoU, xoP, xoA, xoC, xoR, xoS, knew, upd, va_up, ha]
theorem xW_sz {H0 H : Heap} {locs : List Loc} (h : zW D S0 (xR D S0 g k0 k) H0 H locs) : S0 + 30 ≤ H.size := by
  obtain ⟨f, -, -, -, h4⟩ := h
  exact h4.2.1
theorem knew_k {q t t' c : Nat} (h0 : k.2.2 q = 0) (hc : k.2.2 c = t' + 1) : (knew k q t).2.2 c = t' + 1 := by
  have hn : c ≠ q := fun e => by rw [e, h0] at hc; omega
  exact (va_up_ne _ _ hn).trans hc
theorem knew_q (k : kS) (q t : Nat) : (knew k q t).2.2 q = t := va_up_self _ _ _
theorem xW_newC {q : Nat} {H0 H : Heap} {locs : List Loc} (hW : zW D S0 (fun n f' => ∃ f, xR D S0 g k0 k q f ∧ f q = none ∧ n = q + 1 ∧ f' = va_up f q (some (.inr (1, [.int 0, .int 0, .int 0, .int 0, .int 0, .int 0, .int 0, .int 0])))) H0 H locs) (hq : S0 + 30 ≤ q) : k.2.2 q = 0 ∧ zW D S0 (xR D S0 g k0 (knew k q 1)) H0 H locs := by
  have h0 : k.2.2 q = 0 := by
    obtain ⟨f', -, -, -, f, h1, h2, -⟩ := hW
    exact k_fresh h1 h2
  exact ⟨h0, hW.mono (fun n f' h => xN_C hq h0 h)⟩
theorem xW_newR {q : Nat} {H0 H : Heap} {locs : List Loc} (hW : zW D S0 (fun n f' => ∃ f, xR D S0 g k0 k q f ∧ f q = none ∧ n = q + 1 ∧ f' = va_up f q (some (.inr (3, [.int 0, .int 0, .null, .int 0, .int 0, .int 0, .int 0])))) H0 H locs) (hq : S0 + 30 ≤ q) : k.2.2 q = 0 ∧ zW D S0 (xR D S0 g k0 (knew k q 3)) H0 H locs := by
  have h0 : k.2.2 q = 0 := by
    obtain ⟨f', -, -, -, f, h1, h2, -⟩ := hW
    exact k_fresh h1 h2
  exact ⟨h0, hW.mono (fun n f' h => xN_R hq h0 h)⟩
theorem xW_newS {q : Nat} {H0 H : Heap} {locs : List Loc} (hW : zW D S0 (fun n f' => ∃ f, xR D S0 g k0 k q f ∧ f q = none ∧ n = q + 1 ∧ f' = va_up f q (some (.inr (4, [.int 0, .int 0, .null, .null])))) H0 H locs) (hq : S0 + 30 ≤ q) : k.2.2 q = 0 ∧ zW D S0 (xR D S0 g k0 (knew k q 4)) H0 H locs := by
  have h0 : k.2.2 q = 0 := by
    obtain ⟨f', -, -, -, f, h1, h2, -⟩ := hW
    exact k_fresh h1 h2
  exact ⟨h0, hW.mono (fun n f' h => xN_S hq h0 h)⟩
end XW
/-! THE REFERENCE'S WORLD: m by (the field's place in the class, the index); a number's index is 0 -/
abbrev mS : Type := Nat → Nat → Int32
def mset (m : mS) (a i : Nat) (v : Int32) : mS := fun b => if b = a then upd (m b) i v else m b
def moM (S0 : Nat) (m : mS) : List Value := [.ref (S0 + 10), .ref (S0 + 11), .ref (S0 + 12), .ref (S0 + 13), .ref (S0 + 14), .ref (S0 + 15), .ref (S0 + 16), .int (m 7 0), .ref (S0 + 17), .ref (S0 + 18), .ref (S0 + 19), .ref (S0 + 20), .ref (S0 + 21), .ref (S0 + 22), .ref (S0 + 23), .int (m 15 0), .ref (S0 + 24), .ref (S0 + 25), .ref (S0 + 26), .int (m 19 0), .ref (S0 + 27), .ref (S0 + 28), .int (m 22 0), .int (m 23 0)]
def mE (D : zD) (S0 : Nat) (m : mS) : zF := fun q =>
  if q = S0 + 9 then some (.inr (6, moM S0 m))
  else if q = S0 + 10 then some (.inl (D.2.1, 20, .inl (m 0)))
  else if q = S0 + 11 then some (.inl (D.2.1, 20, .inl (m 1)))
  else if q = S0 + 12 then some (.inl (D.2.1, 20, .inl (m 2)))
  else if q = S0 + 13 then some (.inl (D.2.1, 20, .inl (m 3)))
  else if q = S0 + 14 then some (.inl (D.2.1, 20, .inl (m 4)))
  else if q = S0 + 15 then some (.inl (D.2.1, 20, .inl (m 5)))
  else if q = S0 + 16 then some (.inl (D.2.1, 20, .inl (m 6)))
  else if q = S0 + 17 then some (.inl (D.2.1, 40, .inl (m 8)))
  else if q = S0 + 18 then some (.inl (D.2.1, 40, .inl (m 9)))
  else if q = S0 + 19 then some (.inl (D.2.1, 40, .inl (m 10)))
  else if q = S0 + 20 then some (.inl (D.2.1, 40, .inl (m 11)))
  else if q = S0 + 21 then some (.inl (D.2.1, 40, .inl (m 12)))
  else if q = S0 + 22 then some (.inl (D.2.1, 40, .inl (m 13)))
  else if q = S0 + 23 then some (.inl (D.2.1, 40, .inl (m 14)))
  else if q = S0 + 24 then some (.inl (D.2.1, 4000, .inl (m 16)))
  else if q = S0 + 25 then some (.inl (D.2.1, 4000, .inl (m 17)))
  else if q = S0 + 26 then some (.inl (D.2.1, 4000, .inl (m 18)))
  else if q = S0 + 27 then some (.inl (D.2.1, 36, .inl (m 20)))
  else if q = S0 + 28 then some (.inl (D.2.1, 6, .inl (m 21)))
  else none
def mF (D : zD) (S0 : Nat) (g : zF) (m : mS) : zF := fun q => if S0 + 9 ≤ q ∧ q < S0 + 29 then mE D S0 m q else g q
def mR (D : zD) (S0 : Nat) (g : zF) (m : mS) (n : Nat) (f : zF) : Prop := f = mF D S0 g m ∧ S0 + 29 ≤ n
section MW
variable {D : zD} {S0 : Nat} {g : zF} {m : mS}
theorem mC_M (n : Nat) (f : zF) (h : mR D S0 g m n f) : f (S0 + 9) = some (.inr (6, moM S0 m)) := by
  rw [h.1]
  simp [mF, mE]
theorem mC_0 (n : Nat) (f : zF) (h : mR D S0 g m n f) : f (S0 + 10) = some (.inl (D.2.1, 20, .inl (m 0))) := by
  rw [h.1]
  simp [mF, mE]
theorem mC_1 (n : Nat) (f : zF) (h : mR D S0 g m n f) : f (S0 + 11) = some (.inl (D.2.1, 20, .inl (m 1))) := by
  rw [h.1]
  simp [mF, mE]
theorem mC_2 (n : Nat) (f : zF) (h : mR D S0 g m n f) : f (S0 + 12) = some (.inl (D.2.1, 20, .inl (m 2))) := by
  rw [h.1]
  simp [mF, mE]
theorem mC_3 (n : Nat) (f : zF) (h : mR D S0 g m n f) : f (S0 + 13) = some (.inl (D.2.1, 20, .inl (m 3))) := by
  rw [h.1]
  simp [mF, mE]
theorem mC_4 (n : Nat) (f : zF) (h : mR D S0 g m n f) : f (S0 + 14) = some (.inl (D.2.1, 20, .inl (m 4))) := by
  rw [h.1]
  simp [mF, mE]
theorem mC_5 (n : Nat) (f : zF) (h : mR D S0 g m n f) : f (S0 + 15) = some (.inl (D.2.1, 20, .inl (m 5))) := by
  rw [h.1]
  simp [mF, mE]
theorem mC_6 (n : Nat) (f : zF) (h : mR D S0 g m n f) : f (S0 + 16) = some (.inl (D.2.1, 20, .inl (m 6))) := by
  rw [h.1]
  simp [mF, mE]
theorem mC_8 (n : Nat) (f : zF) (h : mR D S0 g m n f) : f (S0 + 17) = some (.inl (D.2.1, 40, .inl (m 8))) := by
  rw [h.1]
  simp [mF, mE]
theorem mC_9 (n : Nat) (f : zF) (h : mR D S0 g m n f) : f (S0 + 18) = some (.inl (D.2.1, 40, .inl (m 9))) := by
  rw [h.1]
  simp [mF, mE]
theorem mC_10 (n : Nat) (f : zF) (h : mR D S0 g m n f) : f (S0 + 19) = some (.inl (D.2.1, 40, .inl (m 10))) := by
  rw [h.1]
  simp [mF, mE]
theorem mC_11 (n : Nat) (f : zF) (h : mR D S0 g m n f) : f (S0 + 20) = some (.inl (D.2.1, 40, .inl (m 11))) := by
  rw [h.1]
  simp [mF, mE]
theorem mC_12 (n : Nat) (f : zF) (h : mR D S0 g m n f) : f (S0 + 21) = some (.inl (D.2.1, 40, .inl (m 12))) := by
  rw [h.1]
  simp [mF, mE]
theorem mC_13 (n : Nat) (f : zF) (h : mR D S0 g m n f) : f (S0 + 22) = some (.inl (D.2.1, 40, .inl (m 13))) := by
  rw [h.1]
  simp [mF, mE]
theorem mC_14 (n : Nat) (f : zF) (h : mR D S0 g m n f) : f (S0 + 23) = some (.inl (D.2.1, 40, .inl (m 14))) := by
  rw [h.1]
  simp [mF, mE]
theorem mC_16 (n : Nat) (f : zF) (h : mR D S0 g m n f) : f (S0 + 24) = some (.inl (D.2.1, 4000, .inl (m 16))) := by
  rw [h.1]
  simp [mF, mE]
theorem mC_17 (n : Nat) (f : zF) (h : mR D S0 g m n f) : f (S0 + 25) = some (.inl (D.2.1, 4000, .inl (m 17))) := by
  rw [h.1]
  simp [mF, mE]
theorem mC_18 (n : Nat) (f : zF) (h : mR D S0 g m n f) : f (S0 + 26) = some (.inl (D.2.1, 4000, .inl (m 18))) := by
  rw [h.1]
  simp [mF, mE]
theorem mC_20 (n : Nat) (f : zF) (h : mR D S0 g m n f) : f (S0 + 27) = some (.inl (D.2.1, 36, .inl (m 20))) := by
  rw [h.1]
  simp [mF, mE]
theorem mC_21 (n : Nat) (f : zF) (h : mR D S0 g m n f) : f (S0 + 28) = some (.inl (D.2.1, 6, .inl (m 21))) := by
  rw [h.1]
  simp [mF, mE]
theorem mP_0 {i : Nat} {v : Int32} (n : Nat) (f : zF) (h : mR D S0 g m n f) : mR D S0 g (mset m 0 i v) n (va_up f (S0 + 10) (some (.inl (D.2.1, 20, .inl (upd (m 0) i v))))) := by
  refine ⟨?_, h.2⟩
  rw [h.1]
  funext q
  by_cases hq : q = S0 + 10
  · subst hq
    simp [mF, mE, mset, va_up]
  · simp [mF, mE, moM, mset, va_up, hq]
theorem mP_1 {i : Nat} {v : Int32} (n : Nat) (f : zF) (h : mR D S0 g m n f) : mR D S0 g (mset m 1 i v) n (va_up f (S0 + 11) (some (.inl (D.2.1, 20, .inl (upd (m 1) i v))))) := by
  refine ⟨?_, h.2⟩
  rw [h.1]
  funext q
  by_cases hq : q = S0 + 11
  · subst hq
    simp [mF, mE, mset, va_up]
  · simp [mF, mE, moM, mset, va_up, hq]
theorem mP_2 {i : Nat} {v : Int32} (n : Nat) (f : zF) (h : mR D S0 g m n f) : mR D S0 g (mset m 2 i v) n (va_up f (S0 + 12) (some (.inl (D.2.1, 20, .inl (upd (m 2) i v))))) := by
  refine ⟨?_, h.2⟩
  rw [h.1]
  funext q
  by_cases hq : q = S0 + 12
  · subst hq
    simp [mF, mE, mset, va_up]
  · simp [mF, mE, moM, mset, va_up, hq]
theorem mP_3 {i : Nat} {v : Int32} (n : Nat) (f : zF) (h : mR D S0 g m n f) : mR D S0 g (mset m 3 i v) n (va_up f (S0 + 13) (some (.inl (D.2.1, 20, .inl (upd (m 3) i v))))) := by
  refine ⟨?_, h.2⟩
  rw [h.1]
  funext q
  by_cases hq : q = S0 + 13
  · subst hq
    simp [mF, mE, mset, va_up]
  · simp [mF, mE, moM, mset, va_up, hq]
theorem mP_4 {i : Nat} {v : Int32} (n : Nat) (f : zF) (h : mR D S0 g m n f) : mR D S0 g (mset m 4 i v) n (va_up f (S0 + 14) (some (.inl (D.2.1, 20, .inl (upd (m 4) i v))))) := by
  refine ⟨?_, h.2⟩
  rw [h.1]
  funext q
  by_cases hq : q = S0 + 14
  · subst hq
    simp [mF, mE, mset, va_up]
  · simp [mF, mE, moM, mset, va_up, hq]
theorem mP_5 {i : Nat} {v : Int32} (n : Nat) (f : zF) (h : mR D S0 g m n f) : mR D S0 g (mset m 5 i v) n (va_up f (S0 + 15) (some (.inl (D.2.1, 20, .inl (upd (m 5) i v))))) := by
  refine ⟨?_, h.2⟩
  rw [h.1]
  funext q
  by_cases hq : q = S0 + 15
  · subst hq
    simp [mF, mE, mset, va_up]
  · simp [mF, mE, moM, mset, va_up, hq]
theorem mP_6 {i : Nat} {v : Int32} (n : Nat) (f : zF) (h : mR D S0 g m n f) : mR D S0 g (mset m 6 i v) n (va_up f (S0 + 16) (some (.inl (D.2.1, 20, .inl (upd (m 6) i v))))) := by
  refine ⟨?_, h.2⟩
  rw [h.1]
  funext q
  by_cases hq : q = S0 + 16
  · subst hq
    simp [mF, mE, mset, va_up]
  · simp [mF, mE, moM, mset, va_up, hq]
theorem mP_8 {i : Nat} {v : Int32} (n : Nat) (f : zF) (h : mR D S0 g m n f) : mR D S0 g (mset m 8 i v) n (va_up f (S0 + 17) (some (.inl (D.2.1, 40, .inl (upd (m 8) i v))))) := by
  refine ⟨?_, h.2⟩
  rw [h.1]
  funext q
  by_cases hq : q = S0 + 17
  · subst hq
    simp [mF, mE, mset, va_up]
  · simp [mF, mE, moM, mset, va_up, hq]
theorem mP_9 {i : Nat} {v : Int32} (n : Nat) (f : zF) (h : mR D S0 g m n f) : mR D S0 g (mset m 9 i v) n (va_up f (S0 + 18) (some (.inl (D.2.1, 40, .inl (upd (m 9) i v))))) := by
  refine ⟨?_, h.2⟩
  rw [h.1]
  funext q
  by_cases hq : q = S0 + 18
  · subst hq
    simp [mF, mE, mset, va_up]
  · simp [mF, mE, moM, mset, va_up, hq]
theorem mP_10 {i : Nat} {v : Int32} (n : Nat) (f : zF) (h : mR D S0 g m n f) : mR D S0 g (mset m 10 i v) n (va_up f (S0 + 19) (some (.inl (D.2.1, 40, .inl (upd (m 10) i v))))) := by
  refine ⟨?_, h.2⟩
  rw [h.1]
  funext q
  by_cases hq : q = S0 + 19
  · subst hq
    simp [mF, mE, mset, va_up]
  · simp [mF, mE, moM, mset, va_up, hq]
theorem mP_11 {i : Nat} {v : Int32} (n : Nat) (f : zF) (h : mR D S0 g m n f) : mR D S0 g (mset m 11 i v) n (va_up f (S0 + 20) (some (.inl (D.2.1, 40, .inl (upd (m 11) i v))))) := by
  refine ⟨?_, h.2⟩
  rw [h.1]
  funext q
  by_cases hq : q = S0 + 20
  · subst hq
    simp [mF, mE, mset, va_up]
  · simp [mF, mE, moM, mset, va_up, hq]
theorem mP_12 {i : Nat} {v : Int32} (n : Nat) (f : zF) (h : mR D S0 g m n f) : mR D S0 g (mset m 12 i v) n (va_up f (S0 + 21) (some (.inl (D.2.1, 40, .inl (upd (m 12) i v))))) := by
  refine ⟨?_, h.2⟩
  rw [h.1]
  funext q
  by_cases hq : q = S0 + 21
  · subst hq
    simp [mF, mE, mset, va_up]
  · simp [mF, mE, moM, mset, va_up, hq]
theorem mP_13 {i : Nat} {v : Int32} (n : Nat) (f : zF) (h : mR D S0 g m n f) : mR D S0 g (mset m 13 i v) n (va_up f (S0 + 22) (some (.inl (D.2.1, 40, .inl (upd (m 13) i v))))) := by
  refine ⟨?_, h.2⟩
  rw [h.1]
  funext q
  by_cases hq : q = S0 + 22
  · subst hq
    simp [mF, mE, mset, va_up]
  · simp [mF, mE, moM, mset, va_up, hq]
theorem mP_14 {i : Nat} {v : Int32} (n : Nat) (f : zF) (h : mR D S0 g m n f) : mR D S0 g (mset m 14 i v) n (va_up f (S0 + 23) (some (.inl (D.2.1, 40, .inl (upd (m 14) i v))))) := by
  refine ⟨?_, h.2⟩
  rw [h.1]
  funext q
  by_cases hq : q = S0 + 23
  · subst hq
    simp [mF, mE, mset, va_up]
  · simp [mF, mE, moM, mset, va_up, hq]
theorem mP_16 {i : Nat} {v : Int32} (n : Nat) (f : zF) (h : mR D S0 g m n f) : mR D S0 g (mset m 16 i v) n (va_up f (S0 + 24) (some (.inl (D.2.1, 4000, .inl (upd (m 16) i v))))) := by
  refine ⟨?_, h.2⟩
  rw [h.1]
  funext q
  by_cases hq : q = S0 + 24
  · subst hq
    simp [mF, mE, mset, va_up]
  · simp [mF, mE, moM, mset, va_up, hq]
theorem mP_17 {i : Nat} {v : Int32} (n : Nat) (f : zF) (h : mR D S0 g m n f) : mR D S0 g (mset m 17 i v) n (va_up f (S0 + 25) (some (.inl (D.2.1, 4000, .inl (upd (m 17) i v))))) := by
  refine ⟨?_, h.2⟩
  rw [h.1]
  funext q
  by_cases hq : q = S0 + 25
  · subst hq
    simp [mF, mE, mset, va_up]
  · simp [mF, mE, moM, mset, va_up, hq]
theorem mP_18 {i : Nat} {v : Int32} (n : Nat) (f : zF) (h : mR D S0 g m n f) : mR D S0 g (mset m 18 i v) n (va_up f (S0 + 26) (some (.inl (D.2.1, 4000, .inl (upd (m 18) i v))))) := by
  refine ⟨?_, h.2⟩
  rw [h.1]
  funext q
  by_cases hq : q = S0 + 26
  · subst hq
    simp [mF, mE, mset, va_up]
  · simp [mF, mE, moM, mset, va_up, hq]
theorem mP_20 {i : Nat} {v : Int32} (n : Nat) (f : zF) (h : mR D S0 g m n f) : mR D S0 g (mset m 20 i v) n (va_up f (S0 + 27) (some (.inl (D.2.1, 36, .inl (upd (m 20) i v))))) := by
  refine ⟨?_, h.2⟩
  rw [h.1]
  funext q
  by_cases hq : q = S0 + 27
  · subst hq
    simp [mF, mE, mset, va_up]
  · simp [mF, mE, moM, mset, va_up, hq]
theorem mP_21 {i : Nat} {v : Int32} (n : Nat) (f : zF) (h : mR D S0 g m n f) : mR D S0 g (mset m 21 i v) n (va_up f (S0 + 28) (some (.inl (D.2.1, 6, .inl (upd (m 21) i v))))) := by
  refine ⟨?_, h.2⟩
  rw [h.1]
  funext q
  by_cases hq : q = S0 + 28
  · subst hq
    simp [mF, mE, mset, va_up]
  · simp [mF, mE, moM, mset, va_up, hq]
theorem mP_7 {v : Int32} (n : Nat) (f : zF) (h : mR D S0 g m n f) : mR D S0 g (mset m 7 0 v) n (va_up f (S0 + 9) (some (.inr (6, (moM S0 m).set 7 (.int v))))) := by
  refine ⟨?_, h.2⟩
  rw [h.1]
  funext q
  by_cases hq : q = S0 + 9
  · subst hq
    simp [mF, mE, moM, mset, upd, va_up]
  · simp [mF, mE, moM, mset, upd, va_up, hq]
theorem mP_15 {v : Int32} (n : Nat) (f : zF) (h : mR D S0 g m n f) : mR D S0 g (mset m 15 0 v) n (va_up f (S0 + 9) (some (.inr (6, (moM S0 m).set 15 (.int v))))) := by
  refine ⟨?_, h.2⟩
  rw [h.1]
  funext q
  by_cases hq : q = S0 + 9
  · subst hq
    simp [mF, mE, moM, mset, upd, va_up]
  · simp [mF, mE, moM, mset, upd, va_up, hq]
theorem mP_19 {v : Int32} (n : Nat) (f : zF) (h : mR D S0 g m n f) : mR D S0 g (mset m 19 0 v) n (va_up f (S0 + 9) (some (.inr (6, (moM S0 m).set 19 (.int v))))) := by
  refine ⟨?_, h.2⟩
  rw [h.1]
  funext q
  by_cases hq : q = S0 + 9
  · subst hq
    simp [mF, mE, moM, mset, upd, va_up]
  · simp [mF, mE, moM, mset, upd, va_up, hq]
theorem mP_22 {v : Int32} (n : Nat) (f : zF) (h : mR D S0 g m n f) : mR D S0 g (mset m 22 0 v) n (va_up f (S0 + 9) (some (.inr (6, (moM S0 m).set 22 (.int v))))) := by
  refine ⟨?_, h.2⟩
  rw [h.1]
  funext q
  by_cases hq : q = S0 + 9
  · subst hq
    simp [mF, mE, moM, mset, upd, va_up]
  · simp [mF, mE, moM, mset, upd, va_up, hq]
theorem mP_23 {v : Int32} (n : Nat) (f : zF) (h : mR D S0 g m n f) : mR D S0 g (mset m 23 0 v) n (va_up f (S0 + 9) (some (.inr (6, (moM S0 m).set 23 (.int v))))) := by
  refine ⟨?_, h.2⟩
  rw [h.1]
  funext q
  by_cases hq : q = S0 + 9
  · subst hq
    simp [mF, mE, moM, mset, upd, va_up]
  · simp [mF, mE, moM, mset, upd, va_up, hq]
end MW
end
section
def wX6_thrown (m0 : mS) (Q : Int32 → mS → Prop) : Prop := Q (m0 23 0) m0
theorem hin_X6_thrown_6 : ∀ w ∈ u_ws RX6 TX6 24, w ∈ wsX6_thrown := by decide +kernel
set_option maxHeartbeats 8000000 in
set_option maxRecDepth 100000 in
theorem cX6_thrown_ok (l : Launch) (hlt : l.stackTraces = false) (D : zD) (S0 : Nat) (g : zF) (m0 : mS)   (Q : Int32 → mS → Prop) (h : wX6_thrown m0 Q) : Met l yX6_thrown wsX6_thrown { frames := 0, cells := 0, slots := 8 * (0), locals := 0 } (zPc D S0 (mR D S0 g m0) [.ref (S0 + 9)]) (va_Qi Q (zB D S0 (fun u => mR D S0 g u)) (zA S0)) (0) (8 * (0)) (zA S0) := by
  refine zMet (cc := cX6_thrown) (maxL := 1) (ret := (some .int)) (by decide) rfl (Nat.le_of_ble_eq_true rfl) (fun p e s m args below meth c ls hx hb hr hml hown hts hlocks hnm hs hE hW hl => ?_)
  have hin6 := hin_X6_thrown_6
  replace hl : lv_has ls 1 [(0, .ref (S0 + 9))] := hl
  unfold wX6_thrown at h
  refine lv_aload_n hx hb dX6_thrown_0 rfl (lv_at hl 0 rfl) ?_
  refine zw_get (C := RX6) (T := TX6) (N := 24) hx hb hts hin6 hown hE.1 hW mC_M rfl 23 (by decide) (hts (.fieldLink RX6 67 "UnionListModel" "thrown" "I") (by decide +kernel)) (fun _ h9 => h9) rfl dX6_thrown_1 ?_
  refine W.widen (k := 0) (n := 8 * (0)) (by omega) (by omega) ?_
  exact (z_iret hx hb hr hlocks hW h dX6_thrown_4)

def wX6_holds (m0 : mS) (p1 : Int32) (Q : Int32 → mS → Prop) : Prop := (∀ m1 : mS, m1 = mset m0 23 0 p1 → ((p1 ≤ 0 → Q 0 m1) ∧ (¬ p1 ≤ 0 → Q 1 m1)))
theorem hin_X6_holds_6 : ∀ w ∈ u_ws RX6 TX6 24, w ∈ wsX6_holds := by decide +kernel
set_option maxHeartbeats 8000000 in
set_option maxRecDepth 100000 in
theorem cX6_holds_ok (l : Launch) (hlt : l.stackTraces = false) (D : zD) (S0 : Nat) (g : zF) (m0 : mS) (p1 : Int32)  (Q : Int32 → mS → Prop) (h : wX6_holds m0 p1 Q) : Met l yX6_holds wsX6_holds { frames := 0, cells := 0, slots := 8 * (0), locals := 0 } (zPc D S0 (mR D S0 g m0) [.ref (S0 + 9), .int p1]) (va_Qi (fun r u => Q r u ∧ (r = 0 ∨ r = 1)) (zB D S0 (fun u => mR D S0 g u)) (zA S0)) (0) (8 * (0)) (zA S0) := by
  refine zMet (cc := cX6_holds) (maxL := 2) (ret := (some .boolean)) (by decide) rfl (Nat.le_of_ble_eq_true rfl) (fun p e s m args below meth c ls hx hb hr hml hown hts hlocks hnm hs hE hW hl => ?_)
  have hin6 := hin_X6_holds_6
  replace hl : lv_has ls 2 [(0, .ref (S0 + 9)), (1, .int p1)] := hl
  unfold wX6_holds at h
  refine lv_aload_n hx hb dX6_holds_0 rfl (lv_at hl 0 rfl) ?_
  refine lv_iload_n hx hb dX6_holds_1 rfl (lv_at hl 1 rfl) ?_
  refine zw_put (C := RX6) (T := TX6) (N := 24) hx hb hts hin6 tyX6 tyX6_ok nmX6 hown hE.1 hW mC_M rfl 23 (by decide) (hts (.fieldLink RX6 67 "UnionListModel" "thrown" "I") (by decide +kernel)) (fun _ h9 => h9) rfl rfl rfl (Nat.le_of_ble_eq_true rfl) dX6_holds_2 mP_23 (fun H locs hW => ?_)
  obtain ⟨m1, em1⟩ : ∃ y, y = mset m0 23 0 p1 := ⟨_, rfl⟩
  rw [← em1] at hW
  replace h := h m1 em1
  refine lv_iload_n hx hb dX6_holds_5 rfl (lv_at hl 1 rfl) ?_
  refine lv_if_le (tgt := 13) hx hb dX6_holds_6 (by decide) (fun c_2 => ?_) (fun c_2 => ?_)
  · replace h := h.1 c_2
    refine lv_iconst (v := 0) hx hb dX6_holds_13 (by decide) ?_
    refine W.widen (k := 0) (n := 8 * (0)) (by omega) (by omega) ?_
    exact (z_zret hx hb hr hlocks hW rfl ⟨h, (Or.inl rfl)⟩ dX6_holds_14)
  · replace h := h.2 c_2
    refine lv_iconst (v := 1) hx hb dX6_holds_9 (by decide) ?_
    refine lv_goto (tgt := 14) hx hb dX6_holds_10 (by decide) ?_
    refine W.widen (k := 0) (n := 8 * (0)) (by omega) (by omega) ?_
    exact (z_zret hx hb hr hlocks hW rfl ⟨h, (Or.inr rfl)⟩ dX6_holds_14)

def wX6_plain (m0 : mS) (p1 : Int32) (Q : Int32 → mS → Prop) : Prop := (∀ m1 : mS, m1 = mset m0 23 0 0 → Q p1 m1)
theorem hin_X6_plain_6 : ∀ w ∈ u_ws RX6 TX6 24, w ∈ wsX6_plain := by decide +kernel
set_option maxHeartbeats 8000000 in
set_option maxRecDepth 100000 in
theorem cX6_plain_ok (l : Launch) (hlt : l.stackTraces = false) (D : zD) (S0 : Nat) (g : zF) (m0 : mS) (p1 : Int32)  (Q : Int32 → mS → Prop) (h : wX6_plain m0 p1 Q) : Met l yX6_plain wsX6_plain { frames := 0, cells := 0, slots := 8 * (0), locals := 0 } (zPc D S0 (mR D S0 g m0) [.ref (S0 + 9), .int p1]) (va_Qi Q (zB D S0 (fun u => mR D S0 g u)) (zA S0)) (0) (8 * (0)) (zA S0) := by
  refine zMet (cc := cX6_plain) (maxL := 2) (ret := (some .int)) (by decide) rfl (Nat.le_of_ble_eq_true rfl) (fun p e s m args below meth c ls hx hb hr hml hown hts hlocks hnm hs hE hW hl => ?_)
  have hin6 := hin_X6_plain_6
  replace hl : lv_has ls 2 [(0, .ref (S0 + 9)), (1, .int p1)] := hl
  unfold wX6_plain at h
  refine lv_aload_n hx hb dX6_plain_0 rfl (lv_at hl 0 rfl) ?_
  refine lv_iconst (v := 0) hx hb dX6_plain_1 (by decide) ?_
  refine zw_put (C := RX6) (T := TX6) (N := 24) hx hb hts hin6 tyX6 tyX6_ok nmX6 hown hE.1 hW mC_M rfl 23 (by decide) (hts (.fieldLink RX6 67 "UnionListModel" "thrown" "I") (by decide +kernel)) (fun _ h9 => h9) rfl rfl rfl (Nat.le_of_ble_eq_true rfl) dX6_plain_2 mP_23 (fun H locs hW => ?_)
  obtain ⟨m1, em1⟩ : ∃ y, y = mset m0 23 0 0 := ⟨_, rfl⟩
  rw [← em1] at hW
  replace h := h m1 em1
  refine lv_iload_n hx hb dX6_plain_5 rfl (lv_at hl 1 rfl) ?_
  refine W.widen (k := 0) (n := 8 * (0)) (by omega) (by omega) ?_
  exact (z_iret hx hb hr hlocks hW h dX6_plain_6)

def wX6_between (m0 : mS) (p1 : Int32) (p2 : Int32) (p3 : Int32) (Q : Int32 → mS → Prop) : Prop := ((p1 < p2 → Q 0 m0) ∧ (¬ p1 < p2 → ((p3 < p1 → Q 0 m0) ∧ (¬ p3 < p1 → Q 1 m0))))
set_option maxHeartbeats 8000000 in
set_option maxRecDepth 100000 in
theorem cX6_between_ok (l : Launch) (hlt : l.stackTraces = false) (D : zD) (S0 : Nat) (g : zF) (m0 : mS) (p1 : Int32) (p2 : Int32) (p3 : Int32)  (Q : Int32 → mS → Prop) (h : wX6_between m0 p1 p2 p3 Q) : Met l yX6_between wsX6_between { frames := 0, cells := 0, slots := 8 * (0), locals := 0 } (zPc D S0 (mR D S0 g m0) [.ref (S0 + 9), .int p1, .int p2, .int p3]) (va_Qi (fun r u => Q r u ∧ (r = 0 ∨ r = 1)) (zB D S0 (fun u => mR D S0 g u)) (zA S0)) (0) (8 * (0)) (zA S0) := by
  refine zMet (cc := cX6_between) (maxL := 4) (ret := (some .boolean)) (by decide) rfl (Nat.le_of_ble_eq_true rfl) (fun p e s m args below meth c ls hx hb hr hml hown hts hlocks hnm hs hE hW hl => ?_)
  replace hl : lv_has ls 4 [(0, .ref (S0 + 9)), (1, .int p1), (2, .int p2), (3, .int p3)] := hl
  unfold wX6_between at h
  refine lv_iload_n hx hb dX6_between_0 rfl (lv_at hl 1 rfl) ?_
  refine lv_iload_n hx hb dX6_between_1 rfl (lv_at hl 2 rfl) ?_
  refine lv_icmp_lt (tgt := 14) hx hb dX6_between_2 (by decide) (fun c_1 => ?_) (fun c_1 => ?_)
  · replace h := h.1 c_1
    refine lv_iconst (v := 0) hx hb dX6_between_14 (by decide) ?_
    refine W.widen (k := 0) (n := 8 * (0)) (by omega) (by omega) ?_
    exact (z_zret hx hb hr hlocks hW rfl ⟨h, (Or.inl rfl)⟩ dX6_between_15)
  · replace h := h.2 c_1
    refine lv_iload_n hx hb dX6_between_5 rfl (lv_at hl 1 rfl) ?_
    refine lv_iload_n hx hb dX6_between_6 rfl (lv_at hl 3 rfl) ?_
    refine lv_icmp_gt (tgt := 14) hx hb dX6_between_7 (by decide) (fun c_2 => ?_) (fun c_2 => ?_)
    · replace h := h.1 c_2
      refine lv_iconst (v := 0) hx hb dX6_between_14 (by decide) ?_
      refine W.widen (k := 0) (n := 8 * (0)) (by omega) (by omega) ?_
      exact (z_zret hx hb hr hlocks hW rfl ⟨h, (Or.inl rfl)⟩ dX6_between_15)
    · replace h := h.2 c_2
      refine lv_iconst (v := 1) hx hb dX6_between_10 (by decide) ?_
      refine lv_goto (tgt := 15) hx hb dX6_between_11 (by decide) ?_
      refine W.widen (k := 0) (n := 8 * (0)) (by omega) (by omega) ?_
      exact (z_zret hx hb hr hlocks hW rfl ⟨h, (Or.inr rfl)⟩ dX6_between_15)

def wX6_isHouse (m0 : mS) (p1 : Int32) (Q : Int32 → mS → Prop) : Prop := (wX6_between m0 p1 0 5 (fun r1 m2 => Q r1 m2))
set_option maxHeartbeats 8000000 in
set_option maxRecDepth 100000 in
theorem cX6_isHouse_ok (l : Launch) (hlt : l.stackTraces = false) (D : zD) (S0 : Nat) (g : zF) (m0 : mS) (p1 : Int32)  (Q : Int32 → mS → Prop) (h : wX6_isHouse m0 p1 Q) : Met l yX6_isHouse wsX6_isHouse { frames := 1, cells := 0, slots := 8 * (0), locals := 23 } (zPc D S0 (mR D S0 g m0) [.ref (S0 + 9), .int p1]) (va_Qi (fun r u => Q r u ∧ (r = 0 ∨ r = 1)) (zB D S0 (fun u => mR D S0 g u)) (zA S0)) (0) (8 * (0)) (zA S0) := by
  refine zMet (cc := cX6_isHouse) (maxL := 2) (ret := (some .boolean)) (by decide) rfl (Nat.le_of_ble_eq_true rfl) (fun p e s m args below meth c ls hx hb hr hml hown hts hlocks hnm hs hE hW hl => ?_)
  replace hl : lv_has ls 2 [(0, .ref (S0 + 9)), (1, .int p1)] := hl
  unfold wX6_isHouse at h
  refine lv_aload_n hx hb dX6_isHouse_0 rfl (lv_at hl 0 rfl) ?_
  refine lv_iload_n hx hb dX6_isHouse_1 rfl (lv_at hl 1 rfl) ?_
  refine lv_iconst (v := 0) hx hb dX6_isHouse_2 (by decide) ?_
  refine lv_iconst (v := 5) hx hb dX6_isHouse_3 (by decide) ?_
  refine zc_i (va_runV (As := [.int p1, .int 0, .int 5]) (rest := []) ⟨hx, hb, hml, hown, hts⟩ (cX6_between_ok l hlt D S0 g m0 p1 0 5 _ h) (cwV 3 hts gX6_isHouse_X6_between rfl rfl rfl (by decide +kernel) ⟨Nat.le_of_ble_eq_true rfl, Nat.le_of_ble_eq_true rfl⟩) (zpreV (q := (RX6, TX6, 24)) hE hs hW mC_M rfl) rfl rfl hl.1 rfl (lv_room (Nat.le_of_ble_eq_true rfl)) dX6_isHouse_4 ⟨by show _ ≤ 0; omega, by show _ ≤ 8 * (0); omega⟩) hW (fun r1 m2 H locs h hW => ?_)
  obtain ⟨h, hz_r1⟩ := h
  refine W.widen (k := 0) (n := 8 * (0)) (by omega) (by omega) ?_
  refine W.widen (k := 0) (n := 8 * (0)) (by omega) (by omega) ?_
  exact (z_zret hx hb hr hlocks hW (nar_z hz_r1) ⟨h, hz_r1⟩ dX6_isHouse_7)

def wX6_isCopy (m0 : mS) (p1 : Int32) (Q : Int32 → mS → Prop) : Prop := (wX6_between m0 p1 0 ((m0 7 0) - 1) (fun r1 m2 => Q r1 m2))
theorem hin_X6_isCopy_6 : ∀ w ∈ u_ws RX6 TX6 24, w ∈ wsX6_isCopy := by decide +kernel
set_option maxHeartbeats 8000000 in
set_option maxRecDepth 100000 in
theorem cX6_isCopy_ok (l : Launch) (hlt : l.stackTraces = false) (D : zD) (S0 : Nat) (g : zF) (m0 : mS) (p1 : Int32)  (Q : Int32 → mS → Prop) (h : wX6_isCopy m0 p1 Q) : Met l yX6_isCopy wsX6_isCopy { frames := 1, cells := 0, slots := 8 * (0), locals := 23 } (zPc D S0 (mR D S0 g m0) [.ref (S0 + 9), .int p1]) (va_Qi (fun r u => Q r u ∧ (r = 0 ∨ r = 1)) (zB D S0 (fun u => mR D S0 g u)) (zA S0)) (0) (8 * (0)) (zA S0) := by
  refine zMet (cc := cX6_isCopy) (maxL := 2) (ret := (some .boolean)) (by decide) rfl (Nat.le_of_ble_eq_true rfl) (fun p e s m args below meth c ls hx hb hr hml hown hts hlocks hnm hs hE hW hl => ?_)
  have hin6 := hin_X6_isCopy_6
  replace hl : lv_has ls 2 [(0, .ref (S0 + 9)), (1, .int p1)] := hl
  unfold wX6_isCopy at h
  refine lv_aload_n hx hb dX6_isCopy_0 rfl (lv_at hl 0 rfl) ?_
  refine lv_iload_n hx hb dX6_isCopy_1 rfl (lv_at hl 1 rfl) ?_
  refine lv_iconst (v := 0) hx hb dX6_isCopy_2 (by decide) ?_
  refine lv_aload_n hx hb dX6_isCopy_3 rfl (lv_at hl 0 rfl) ?_
  refine zw_get (C := RX6) (T := TX6) (N := 24) hx hb hts hin6 hown hE.1 hW mC_M rfl 7 (by decide) (hts (.fieldLink RX6 75 "UnionListModel" "copies" "I") (by decide +kernel)) (fun _ h9 => h9) rfl dX6_isCopy_4 ?_
  refine lv_iconst (v := 1) hx hb dX6_isCopy_7 (by decide) ?_
  refine lv_isub hx hb dX6_isCopy_8 ?_
  refine zc_i (va_runV (As := [.int p1, .int 0, .int ((m0 7 0) - 1)]) (rest := []) ⟨hx, hb, hml, hown, hts⟩ (cX6_between_ok l hlt D S0 g m0 p1 0 ((m0 7 0) - 1) _ h) (cwV 3 hts gX6_isCopy_X6_between rfl rfl rfl (by decide +kernel) ⟨Nat.le_of_ble_eq_true rfl, Nat.le_of_ble_eq_true rfl⟩) (zpreV (q := (RX6, TX6, 24)) hE hs hW mC_M rfl) rfl rfl hl.1 rfl (lv_room (Nat.le_of_ble_eq_true rfl)) dX6_isCopy_9 ⟨by show _ ≤ 0; omega, by show _ ≤ 8 * (0); omega⟩) hW (fun r1 m2 H locs h hW => ?_)
  obtain ⟨h, hz_r1⟩ := h
  refine W.widen (k := 0) (n := 8 * (0)) (by omega) (by omega) ?_
  refine W.widen (k := 0) (n := 8 * (0)) (by omega) (by omega) ?_
  exact (z_zret hx hb hr hlocks hW (nar_z hz_r1) ⟨h, hz_r1⟩ dX6_isCopy_12)

def wX6_isRequest (m0 : mS) (p1 : Int32) (Q : Int32 → mS → Prop) : Prop := (wX6_between m0 p1 0 ((m0 15 0) - 1) (fun r1 m2 => Q r1 m2))
theorem hin_X6_isRequest_6 : ∀ w ∈ u_ws RX6 TX6 24, w ∈ wsX6_isRequest := by decide +kernel
set_option maxHeartbeats 8000000 in
set_option maxRecDepth 100000 in
theorem cX6_isRequest_ok (l : Launch) (hlt : l.stackTraces = false) (D : zD) (S0 : Nat) (g : zF) (m0 : mS) (p1 : Int32)  (Q : Int32 → mS → Prop) (h : wX6_isRequest m0 p1 Q) : Met l yX6_isRequest wsX6_isRequest { frames := 1, cells := 0, slots := 8 * (0), locals := 23 } (zPc D S0 (mR D S0 g m0) [.ref (S0 + 9), .int p1]) (va_Qi (fun r u => Q r u ∧ (r = 0 ∨ r = 1)) (zB D S0 (fun u => mR D S0 g u)) (zA S0)) (0) (8 * (0)) (zA S0) := by
  refine zMet (cc := cX6_isRequest) (maxL := 2) (ret := (some .boolean)) (by decide) rfl (Nat.le_of_ble_eq_true rfl) (fun p e s m args below meth c ls hx hb hr hml hown hts hlocks hnm hs hE hW hl => ?_)
  have hin6 := hin_X6_isRequest_6
  replace hl : lv_has ls 2 [(0, .ref (S0 + 9)), (1, .int p1)] := hl
  unfold wX6_isRequest at h
  refine lv_aload_n hx hb dX6_isRequest_0 rfl (lv_at hl 0 rfl) ?_
  refine lv_iload_n hx hb dX6_isRequest_1 rfl (lv_at hl 1 rfl) ?_
  refine lv_iconst (v := 0) hx hb dX6_isRequest_2 (by decide) ?_
  refine lv_aload_n hx hb dX6_isRequest_3 rfl (lv_at hl 0 rfl) ?_
  refine zw_get (C := RX6) (T := TX6) (N := 24) hx hb hts hin6 hown hE.1 hW mC_M rfl 15 (by decide) (hts (.fieldLink RX6 78 "UnionListModel" "requests" "I") (by decide +kernel)) (fun _ h9 => h9) rfl dX6_isRequest_4 ?_
  refine lv_iconst (v := 1) hx hb dX6_isRequest_7 (by decide) ?_
  refine lv_isub hx hb dX6_isRequest_8 ?_
  refine zc_i (va_runV (As := [.int p1, .int 0, .int ((m0 15 0) - 1)]) (rest := []) ⟨hx, hb, hml, hown, hts⟩ (cX6_between_ok l hlt D S0 g m0 p1 0 ((m0 15 0) - 1) _ h) (cwV 3 hts gX6_isRequest_X6_between rfl rfl rfl (by decide +kernel) ⟨Nat.le_of_ble_eq_true rfl, Nat.le_of_ble_eq_true rfl⟩) (zpreV (q := (RX6, TX6, 24)) hE hs hW mC_M rfl) rfl rfl hl.1 rfl (lv_room (Nat.le_of_ble_eq_true rfl)) dX6_isRequest_9 ⟨by show _ ≤ 0; omega, by show _ ≤ 8 * (0); omega⟩) hW (fun r1 m2 H locs h hW => ?_)
  obtain ⟨h, hz_r1⟩ := h
  refine W.widen (k := 0) (n := 8 * (0)) (by omega) (by omega) ?_
  refine W.widen (k := 0) (n := 8 * (0)) (by omega) (by omega) ?_
  exact (z_zret hx hb hr hlocks hW (nar_z hz_r1) ⟨h, hz_r1⟩ dX6_isRequest_12)

def wX6_way (m0 : mS) (p1 : Int32) (p2 : Int32) (Q : Int32 → mS → Prop) : Prop := ((p2 ≤ p1 → Q ((p1 - p2) + 1) m0) ∧ (¬ p2 ≤ p1 → Q ((p2 - p1) + 1) m0))
set_option maxHeartbeats 8000000 in
set_option maxRecDepth 100000 in
theorem cX6_way_ok (l : Launch) (hlt : l.stackTraces = false) (D : zD) (S0 : Nat) (g : zF) (m0 : mS) (p1 : Int32) (p2 : Int32)  (Q : Int32 → mS → Prop) (h : wX6_way m0 p1 p2 Q) : Met l yX6_way wsX6_way { frames := 0, cells := 0, slots := 8 * (0), locals := 0 } (zPc D S0 (mR D S0 g m0) [.ref (S0 + 9), .int p1, .int p2]) (va_Qi Q (zB D S0 (fun u => mR D S0 g u)) (zA S0)) (0) (8 * (0)) (zA S0) := by
  refine zMet (cc := cX6_way) (maxL := 3) (ret := (some .int)) (by decide) rfl (Nat.le_of_ble_eq_true rfl) (fun p e s m args below meth c ls hx hb hr hml hown hts hlocks hnm hs hE hW hl => ?_)
  replace hl : lv_has ls 3 [(0, .ref (S0 + 9)), (1, .int p1), (2, .int p2)] := hl
  unfold wX6_way at h
  refine lv_iload_n hx hb dX6_way_0 rfl (lv_at hl 1 rfl) ?_
  refine lv_iload_n hx hb dX6_way_1 rfl (lv_at hl 2 rfl) ?_
  refine lv_icmp_ge (tgt := 13) hx hb dX6_way_2 (by decide) (fun c_1 => ?_) (fun c_1 => ?_)
  · replace h := h.1 c_1
    refine lv_iload_n hx hb dX6_way_13 rfl (lv_at hl 1 rfl) ?_
    refine lv_iload_n hx hb dX6_way_14 rfl (lv_at hl 2 rfl) ?_
    refine lv_isub hx hb dX6_way_15 ?_
    refine lv_iconst (v := 1) hx hb dX6_way_16 (by decide) ?_
    refine lv_iadd hx hb dX6_way_17 ?_
    refine W.widen (k := 0) (n := 8 * (0)) (by omega) (by omega) ?_
    exact (z_iret hx hb hr hlocks hW h dX6_way_18)
  · replace h := h.2 c_1
    refine lv_iload_n hx hb dX6_way_5 rfl (lv_at hl 2 rfl) ?_
    refine lv_iload_n hx hb dX6_way_6 rfl (lv_at hl 1 rfl) ?_
    refine lv_isub hx hb dX6_way_7 ?_
    refine lv_iconst (v := 1) hx hb dX6_way_8 (by decide) ?_
    refine lv_iadd hx hb dX6_way_9 ?_
    refine lv_goto (tgt := 18) hx hb dX6_way_10 (by decide) ?_
    refine W.widen (k := 0) (n := 8 * (0)) (by omega) (by omega) ?_
    exact (z_iret hx hb hr hlocks hW h dX6_way_18)

def wX6_send (m0 : mS) (p1 : Int32) (p2 : Int32) (p3 : Int32) (Q : Int32 → mS → Prop) : Prop := (vp_in (m0 19 0) 4000 ∧ (∀ m2 : mS, m2 = mset m0 16 (m0 19 0).toNatClampNeg p1 → (vp_in (m2 19 0) 4000 ∧ (∀ m4 : mS, m4 = mset m2 17 (m2 19 0).toNatClampNeg p2 → (vp_in (m4 19 0) 4000 ∧ (∀ m6 : mS, m6 = mset m4 18 (m4 19 0).toNatClampNeg ((m4 22 0) + p3) → (∀ m7 : mS, m7 = mset m6 19 0 ((m6 19 0) + 1) → Q ((m7 22 0) + p3) m7)))))))
theorem hin_X6_send_6 : ∀ w ∈ u_ws RX6 TX6 24, w ∈ wsX6_send := by decide +kernel
set_option maxHeartbeats 8000000 in
set_option maxRecDepth 100000 in
theorem cX6_send_ok (l : Launch) (hlt : l.stackTraces = false) (D : zD) (S0 : Nat) (g : zF) (m0 : mS) (p1 : Int32) (p2 : Int32) (p3 : Int32)  (Q : Int32 → mS → Prop) (h : wX6_send m0 p1 p2 p3 Q) : Met l yX6_send wsX6_send { frames := 0, cells := 0, slots := 8 * (0), locals := 0 } (zPc D S0 (mR D S0 g m0) [.ref (S0 + 9), .int p1, .int p2, .int p3]) (va_Qi Q (zB D S0 (fun u => mR D S0 g u)) (zA S0)) (0) (8 * (0)) (zA S0) := by
  refine zMet (cc := cX6_send) (maxL := 4) (ret := (some .int)) (by decide) rfl (Nat.le_of_ble_eq_true rfl) (fun p e s m args below meth c ls hx hb hr hml hown hts hlocks hnm hs hE hW hl => ?_)
  have hin6 := hin_X6_send_6
  replace hl : lv_has ls 4 [(0, .ref (S0 + 9)), (1, .int p1), (2, .int p2), (3, .int p3)] := hl
  unfold wX6_send at h
  refine lv_aload_n hx hb dX6_send_0 rfl (lv_at hl 0 rfl) ?_
  refine zw_get (C := RX6) (T := TX6) (N := 24) hx hb hts hin6 hown hE.1 hW mC_M rfl 16 (by decide) (hts (.fieldLink RX6 52 "UnionListModel" "kind" "[I") (by decide +kernel)) (fun _ h9 => h9) rfl dX6_send_1 ?_
  refine lv_aload_n hx hb dX6_send_4 rfl (lv_at hl 0 rfl) ?_
  refine zw_get (C := RX6) (T := TX6) (N := 24) hx hb hts hin6 hown hE.1 hW mC_M rfl 19 (by decide) (hts (.fieldLink RX6 81 "UnionListModel" "under" "I") (by decide +kernel)) (fun _ h9 => h9) rfl dX6_send_5 ?_
  refine lv_iload_n hx hb dX6_send_8 rfl (lv_at hl 1 rfl) ?_
  obtain ⟨hb_1, h⟩ := h
  refine zw_iast hx hb hE.1 hW mC_16 hb_1 dX6_send_9 mP_16 (fun H locs hW => ?_)
  obtain ⟨m2, em2⟩ : ∃ y, y = mset m0 16 (m0 19 0).toNatClampNeg p1 := ⟨_, rfl⟩
  rw [← em2] at hW
  replace h := h m2 em2
  refine lv_aload_n hx hb dX6_send_10 rfl (lv_at hl 0 rfl) ?_
  refine zw_get (C := RX6) (T := TX6) (N := 24) hx hb hts hin6 hown hE.1 hW mC_M rfl 17 (by decide) (hts (.fieldLink RX6 55 "UnionListModel" "what" "[I") (by decide +kernel)) (fun _ h9 => h9) rfl dX6_send_11 ?_
  refine lv_aload_n hx hb dX6_send_14 rfl (lv_at hl 0 rfl) ?_
  refine zw_get (C := RX6) (T := TX6) (N := 24) hx hb hts hin6 hown hE.1 hW mC_M rfl 19 (by decide) (hts (.fieldLink RX6 81 "UnionListModel" "under" "I") (by decide +kernel)) (fun _ h9 => h9) rfl dX6_send_15 ?_
  refine lv_iload_n hx hb dX6_send_18 rfl (lv_at hl 2 rfl) ?_
  obtain ⟨hb_3, h⟩ := h
  refine zw_iast hx hb hE.1 hW mC_17 hb_3 dX6_send_19 mP_17 (fun H locs hW => ?_)
  obtain ⟨m4, em4⟩ : ∃ y, y = mset m2 17 (m2 19 0).toNatClampNeg p2 := ⟨_, rfl⟩
  rw [← em4] at hW
  replace h := h m4 em4
  refine lv_aload_n hx hb dX6_send_20 rfl (lv_at hl 0 rfl) ?_
  refine zw_get (C := RX6) (T := TX6) (N := 24) hx hb hts hin6 hown hE.1 hW mC_M rfl 18 (by decide) (hts (.fieldLink RX6 58 "UnionListModel" "day" "[I") (by decide +kernel)) (fun _ h9 => h9) rfl dX6_send_21 ?_
  refine lv_aload_n hx hb dX6_send_24 rfl (lv_at hl 0 rfl) ?_
  refine zw_get (C := RX6) (T := TX6) (N := 24) hx hb hts hin6 hown hE.1 hW mC_M rfl 19 (by decide) (hts (.fieldLink RX6 81 "UnionListModel" "under" "I") (by decide +kernel)) (fun _ h9 => h9) rfl dX6_send_25 ?_
  refine lv_aload_n hx hb dX6_send_28 rfl (lv_at hl 0 rfl) ?_
  refine zw_get (C := RX6) (T := TX6) (N := 24) hx hb hts hin6 hown hE.1 hW mC_M rfl 22 (by decide) (hts (.fieldLink RX6 84 "UnionListModel" "now" "I") (by decide +kernel)) (fun _ h9 => h9) rfl dX6_send_29 ?_
  refine lv_iload_n hx hb dX6_send_32 rfl (lv_at hl 3 rfl) ?_
  refine lv_iadd hx hb dX6_send_33 ?_
  obtain ⟨hb_5, h⟩ := h
  refine zw_iast hx hb hE.1 hW mC_18 hb_5 dX6_send_34 mP_18 (fun H locs hW => ?_)
  obtain ⟨m6, em6⟩ : ∃ y, y = mset m4 18 (m4 19 0).toNatClampNeg ((m4 22 0) + p3) := ⟨_, rfl⟩
  rw [← em6] at hW
  replace h := h m6 em6
  refine lv_aload_n hx hb dX6_send_35 rfl (lv_at hl 0 rfl) ?_
  refine lv_dup hx hb dX6_send_36 rfl ?_
  refine zw_get (C := RX6) (T := TX6) (N := 24) hx hb hts hin6 hown hE.1 hW mC_M rfl 19 (by decide) (hts (.fieldLink RX6 81 "UnionListModel" "under" "I") (by decide +kernel)) (fun _ h9 => h9) rfl dX6_send_37 ?_
  refine lv_iconst (v := 1) hx hb dX6_send_40 (by decide) ?_
  refine lv_iadd hx hb dX6_send_41 ?_
  refine zw_put (C := RX6) (T := TX6) (N := 24) hx hb hts hin6 tyX6 tyX6_ok nmX6 hown hE.1 hW mC_M rfl 19 (by decide) (hts (.fieldLink RX6 81 "UnionListModel" "under" "I") (by decide +kernel)) (fun _ h9 => h9) rfl rfl rfl (Nat.le_of_ble_eq_true rfl) dX6_send_42 mP_19 (fun H locs hW => ?_)
  obtain ⟨m7, em7⟩ : ∃ y, y = mset m6 19 0 ((m6 19 0) + 1) := ⟨_, rfl⟩
  rw [← em7] at hW
  replace h := h m7 em7
  refine lv_aload_n hx hb dX6_send_45 rfl (lv_at hl 0 rfl) ?_
  refine zw_get (C := RX6) (T := TX6) (N := 24) hx hb hts hin6 hown hE.1 hW mC_M rfl 22 (by decide) (hts (.fieldLink RX6 84 "UnionListModel" "now" "I") (by decide +kernel)) (fun _ h9 => h9) rfl dX6_send_46 ?_
  refine lv_iload_n hx hb dX6_send_49 rfl (lv_at hl 3 rfl) ?_
  refine lv_iadd hx hb dX6_send_50 ?_
  refine W.widen (k := 0) (n := 8 * (0)) (by omega) (by omega) ?_
  exact (z_iret hx hb hr hlocks hW h dX6_send_51)

def wX6_owe (m0 : mS) (p1 : Int32) (p2 : Int32) (p3 : Int32) (Q : mS → Prop) : Prop := (vp_in ((6 * p1) + p2) 36 ∧ (vp_in ((6 * p1) + p2) 36 ∧ (∀ m3 : mS, m3 = mset m0 20 ((6 * p1) + p2).toNatClampNeg ((m0 20 ((6 * p1) + p2).toNatClampNeg) + p3) → (vp_in ((6 * p2) + p1) 36 ∧ (vp_in ((6 * p2) + p1) 36 ∧ (∀ m6 : mS, m6 = mset m3 20 ((6 * p2) + p1).toNatClampNeg ((m3 20 ((6 * p2) + p1).toNatClampNeg) - p3) → Q m6))))))
theorem hin_X6_owe_6 : ∀ w ∈ u_ws RX6 TX6 24, w ∈ wsX6_owe := by decide +kernel
set_option maxHeartbeats 8000000 in
set_option maxRecDepth 100000 in
theorem cX6_owe_ok (l : Launch) (hlt : l.stackTraces = false) (D : zD) (S0 : Nat) (g : zF) (m0 : mS) (p1 : Int32) (p2 : Int32) (p3 : Int32)  (Q : mS → Prop) (h : wX6_owe m0 p1 p2 p3 Q) : Met l yX6_owe wsX6_owe { frames := 0, cells := 0, slots := 8 * (0), locals := 0 } (zPc D S0 (mR D S0 g m0) [.ref (S0 + 9), .int p1, .int p2, .int p3]) (va_Qv Q (zB D S0 (fun u => mR D S0 g u)) (zA S0)) (0) (8 * (0)) (zA S0) := by
  refine zMet (cc := cX6_owe) (maxL := 4) (ret := none) (by decide) rfl (Nat.le_of_ble_eq_true rfl) (fun p e s m args below meth c ls hx hb hr hml hown hts hlocks hnm hs hE hW hl => ?_)
  have hin6 := hin_X6_owe_6
  replace hl : lv_has ls 4 [(0, .ref (S0 + 9)), (1, .int p1), (2, .int p2), (3, .int p3)] := hl
  unfold wX6_owe at h
  refine lv_aload_n hx hb dX6_owe_0 rfl (lv_at hl 0 rfl) ?_
  refine zw_get (C := RX6) (T := TX6) (N := 24) hx hb hts hin6 hown hE.1 hW mC_M rfl 20 (by decide) (hts (.fieldLink RX6 61 "UnionListModel" "debt" "[I") (by decide +kernel)) (fun _ h9 => h9) rfl dX6_owe_1 ?_
  refine lv_bipush (v := 6) hx hb dX6_owe_4 (by decide) ?_
  refine lv_iload_n hx hb dX6_owe_6 rfl (lv_at hl 1 rfl) ?_
  refine lv_imul hx hb dX6_owe_7 ?_
  refine lv_iload_n hx hb dX6_owe_8 rfl (lv_at hl 2 rfl) ?_
  refine lv_iadd hx hb dX6_owe_9 ?_
  refine lv_dup2_11 hx hb dX6_owe_10 rfl rfl ?_
  obtain ⟨hb_1, h⟩ := h
  refine zw_iald hx hb hE.1 hW mC_20 hb_1 dX6_owe_11 ?_
  refine lv_iload_n hx hb dX6_owe_12 rfl (lv_at hl 3 rfl) ?_
  refine lv_iadd hx hb dX6_owe_13 ?_
  obtain ⟨hb_2, h⟩ := h
  refine zw_iast hx hb hE.1 hW mC_20 hb_2 dX6_owe_14 mP_20 (fun H locs hW => ?_)
  obtain ⟨m3, em3⟩ : ∃ y, y = mset m0 20 ((6 * p1) + p2).toNatClampNeg ((m0 20 ((6 * p1) + p2).toNatClampNeg) + p3) := ⟨_, rfl⟩
  rw [← em3] at hW
  replace h := h m3 em3
  refine lv_aload_n hx hb dX6_owe_15 rfl (lv_at hl 0 rfl) ?_
  refine zw_get (C := RX6) (T := TX6) (N := 24) hx hb hts hin6 hown hE.1 hW mC_M rfl 20 (by decide) (hts (.fieldLink RX6 61 "UnionListModel" "debt" "[I") (by decide +kernel)) (fun _ h9 => h9) rfl dX6_owe_16 ?_
  refine lv_bipush (v := 6) hx hb dX6_owe_19 (by decide) ?_
  refine lv_iload_n hx hb dX6_owe_21 rfl (lv_at hl 2 rfl) ?_
  refine lv_imul hx hb dX6_owe_22 ?_
  refine lv_iload_n hx hb dX6_owe_23 rfl (lv_at hl 1 rfl) ?_
  refine lv_iadd hx hb dX6_owe_24 ?_
  refine lv_dup2_11 hx hb dX6_owe_25 rfl rfl ?_
  obtain ⟨hb_4, h⟩ := h
  refine zw_iald hx hb hE.1 hW mC_20 hb_4 dX6_owe_26 ?_
  refine lv_iload_n hx hb dX6_owe_27 rfl (lv_at hl 3 rfl) ?_
  refine lv_isub hx hb dX6_owe_28 ?_
  obtain ⟨hb_5, h⟩ := h
  refine zw_iast hx hb hE.1 hW mC_20 hb_5 dX6_owe_29 mP_20 (fun H locs hW => ?_)
  obtain ⟨m6, em6⟩ : ∃ y, y = mset m3 20 ((6 * p2) + p1).toNatClampNeg ((m3 20 ((6 * p2) + p1).toNatClampNeg) - p3) := ⟨_, rfl⟩
  rw [← em6] at hW
  replace h := h m6 em6
  refine W.widen (k := 0) (n := 8 * (0)) (by omega) (by omega) ?_
  exact (z_vret hx hb hr hlocks hW h dX6_owe_30)

def wX6_free (m0 : mS) (p1 : Int32) (Q : Int32 → mS → Prop) : Prop := (vp_in p1 20 ∧ (vp_in p1 20 ∧ (((m0 2 p1.toNatClampNeg) = (m0 0 p1.toNatClampNeg) → (vp_in p1 20 ∧ (((m0 6 p1.toNatClampNeg) = 0 → Q 1 m0) ∧ (¬ (m0 6 p1.toNatClampNeg) = 0 → Q 0 m0)))) ∧ (¬ (m0 2 p1.toNatClampNeg) = (m0 0 p1.toNatClampNeg) → Q 0 m0))))
theorem hin_X6_free_6 : ∀ w ∈ u_ws RX6 TX6 24, w ∈ wsX6_free := by decide +kernel
set_option maxHeartbeats 8000000 in
set_option maxRecDepth 100000 in
theorem cX6_free_ok (l : Launch) (hlt : l.stackTraces = false) (D : zD) (S0 : Nat) (g : zF) (m0 : mS) (p1 : Int32)  (Q : Int32 → mS → Prop) (h : wX6_free m0 p1 Q) : Met l yX6_free wsX6_free { frames := 0, cells := 0, slots := 8 * (0), locals := 0 } (zPc D S0 (mR D S0 g m0) [.ref (S0 + 9), .int p1]) (va_Qi (fun r u => Q r u ∧ (r = 0 ∨ r = 1)) (zB D S0 (fun u => mR D S0 g u)) (zA S0)) (0) (8 * (0)) (zA S0) := by
  refine zMet (cc := cX6_free) (maxL := 2) (ret := (some .boolean)) (by decide) rfl (Nat.le_of_ble_eq_true rfl) (fun p e s m args below meth c ls hx hb hr hml hown hts hlocks hnm hs hE hW hl => ?_)
  have hin6 := hin_X6_free_6
  replace hl : lv_has ls 2 [(0, .ref (S0 + 9)), (1, .int p1)] := hl
  unfold wX6_free at h
  refine lv_aload_n hx hb dX6_free_0 rfl (lv_at hl 0 rfl) ?_
  refine zw_get (C := RX6) (T := TX6) (N := 24) hx hb hts hin6 hown hE.1 hW mC_M rfl 2 (by decide) (hts (.fieldLink RX6 16 "UnionListModel" "place" "[I") (by decide +kernel)) (fun _ h9 => h9) rfl dX6_free_1 ?_
  refine lv_iload_n hx hb dX6_free_4 rfl (lv_at hl 1 rfl) ?_
  obtain ⟨hb_1, h⟩ := h
  refine zw_iald hx hb hE.1 hW mC_2 hb_1 dX6_free_5 ?_
  refine lv_aload_n hx hb dX6_free_6 rfl (lv_at hl 0 rfl) ?_
  refine zw_get (C := RX6) (T := TX6) (N := 24) hx hb hts hin6 hown hE.1 hW mC_M rfl 0 (by decide) (hts (.fieldLink RX6 7 "UnionListModel" "home" "[I") (by decide +kernel)) (fun _ h9 => h9) rfl dX6_free_7 ?_
  refine lv_iload_n hx hb dX6_free_10 rfl (lv_at hl 1 rfl) ?_
  obtain ⟨hb_2, h⟩ := h
  refine zw_iald hx hb hE.1 hW mC_0 hb_2 dX6_free_11 ?_
  refine lv_icmp_ne (tgt := 28) hx hb dX6_free_12 (by decide) (fun c_3 => ?_) (fun c_3 => ?_)
  · replace h := h.2 c_3
    refine lv_iconst (v := 0) hx hb dX6_free_28 (by decide) ?_
    refine W.widen (k := 0) (n := 8 * (0)) (by omega) (by omega) ?_
    exact (z_zret hx hb hr hlocks hW rfl ⟨h, (Or.inl rfl)⟩ dX6_free_29)
  · replace h := h.1 c_3
    refine lv_aload_n hx hb dX6_free_15 rfl (lv_at hl 0 rfl) ?_
    refine zw_get (C := RX6) (T := TX6) (N := 24) hx hb hts hin6 hown hE.1 hW mC_M rfl 6 (by decide) (hts (.fieldLink RX6 28 "UnionListModel" "seen" "[I") (by decide +kernel)) (fun _ h9 => h9) rfl dX6_free_16 ?_
    refine lv_iload_n hx hb dX6_free_19 rfl (lv_at hl 1 rfl) ?_
    obtain ⟨hb_4, h⟩ := h
    refine zw_iald hx hb hE.1 hW mC_6 hb_4 dX6_free_20 ?_
    refine lv_if_ne (tgt := 28) hx hb dX6_free_21 (by decide) (fun c_5 => ?_) (fun c_5 => ?_)
    · replace h := h.2 c_5
      refine lv_iconst (v := 0) hx hb dX6_free_28 (by decide) ?_
      refine W.widen (k := 0) (n := 8 * (0)) (by omega) (by omega) ?_
      exact (z_zret hx hb hr hlocks hW rfl ⟨h, (Or.inl rfl)⟩ dX6_free_29)
    · replace h := h.1 c_5
      refine lv_iconst (v := 1) hx hb dX6_free_24 (by decide) ?_
      refine lv_goto (tgt := 29) hx hb dX6_free_25 (by decide) ?_
      refine W.widen (k := 0) (n := 8 * (0)) (by omega) (by omega) ?_
      exact (z_zret hx hb hr hlocks hW rfl ⟨h, (Or.inr rfl)⟩ dX6_free_29)

def wX6_tell (m0 : mS) (p1 : Int32) (p2 : Int32) (Q : mS → Prop) : Prop := (vp_in p1 20 ∧ (wX6_send m0 p2 p1 ((m0 0 p1.toNatClampNeg) + 1) (fun r2 m3 => Q m3)))
theorem hin_X6_tell_6 : ∀ w ∈ u_ws RX6 TX6 24, w ∈ wsX6_tell := by decide +kernel
set_option maxHeartbeats 8000000 in
set_option maxRecDepth 100000 in
theorem cX6_tell_ok (l : Launch) (hlt : l.stackTraces = false) (D : zD) (S0 : Nat) (g : zF) (m0 : mS) (p1 : Int32) (p2 : Int32)  (Q : mS → Prop) (h : wX6_tell m0 p1 p2 Q) : Met l yX6_tell wsX6_tell { frames := 1, cells := 0, slots := 8 * (0), locals := 23 } (zPc D S0 (mR D S0 g m0) [.ref (S0 + 9), .int p1, .int p2]) (va_Qv Q (zB D S0 (fun u => mR D S0 g u)) (zA S0)) (0) (8 * (0)) (zA S0) := by
  refine zMet (cc := cX6_tell) (maxL := 3) (ret := none) (by decide) rfl (Nat.le_of_ble_eq_true rfl) (fun p e s m args below meth c ls hx hb hr hml hown hts hlocks hnm hs hE hW hl => ?_)
  have hin6 := hin_X6_tell_6
  replace hl : lv_has ls 3 [(0, .ref (S0 + 9)), (1, .int p1), (2, .int p2)] := hl
  unfold wX6_tell at h
  refine lv_aload_n hx hb dX6_tell_0 rfl (lv_at hl 0 rfl) ?_
  refine lv_iload_n hx hb dX6_tell_1 rfl (lv_at hl 2 rfl) ?_
  refine lv_iload_n hx hb dX6_tell_2 rfl (lv_at hl 1 rfl) ?_
  refine lv_aload_n hx hb dX6_tell_3 rfl (lv_at hl 0 rfl) ?_
  refine zw_get (C := RX6) (T := TX6) (N := 24) hx hb hts hin6 hown hE.1 hW mC_M rfl 0 (by decide) (hts (.fieldLink RX6 7 "UnionListModel" "home" "[I") (by decide +kernel)) (fun _ h9 => h9) rfl dX6_tell_4 ?_
  refine lv_iload_n hx hb dX6_tell_7 rfl (lv_at hl 1 rfl) ?_
  obtain ⟨hb_1, h⟩ := h
  refine zw_iald hx hb hE.1 hW mC_0 hb_1 dX6_tell_8 ?_
  refine lv_iconst (v := 1) hx hb dX6_tell_9 (by decide) ?_
  refine lv_iadd hx hb dX6_tell_10 ?_
  refine zc_i (va_runV (As := [.int p2, .int p1, .int ((m0 0 p1.toNatClampNeg) + 1)]) (rest := []) ⟨hx, hb, hml, hown, hts⟩ (cX6_send_ok l hlt D S0 g m0 p2 p1 ((m0 0 p1.toNatClampNeg) + 1) _ h) (cwV 3 hts gX6_tell_X6_send rfl rfl rfl (by decide +kernel) ⟨Nat.le_of_ble_eq_true rfl, Nat.le_of_ble_eq_true rfl⟩) (zpreV (q := (RX6, TX6, 24)) hE hs hW mC_M rfl) rfl rfl hl.1 rfl (lv_room (Nat.le_of_ble_eq_true rfl)) dX6_tell_11 ⟨by show _ ≤ 0; omega, by show _ ≤ 8 * (0); omega⟩) hW (fun r2 m3 H locs h hW => ?_)
  refine W.widen (k := 0) (n := 8 * (0)) (by omega) (by omega) ?_
  refine lv_pop hx hb dX6_tell_14 rfl ?_
  refine W.widen (k := 0) (n := 8 * (0)) (by omega) (by omega) ?_
  exact (z_vret hx hb hr hlocks hW h dX6_tell_15)

def wX6_inHandsOf (m0 : mS) (p1 : Int32) (Q : Int32 → mS → Prop) : Prop := (wX6_isCopy m0 p1 (fun r1 m2 => ((r1 = 0 → (wX6_holds m2 1 (fun r4 m5 => ((r4 = 0 → (vp_in p1 20 ∧ Q (m5 3 p1.toNatClampNeg) m5)) ∧ (¬ r4 = 0 → Q (-1) m5))))) ∧ (¬ r1 = 0 → (wX6_holds m2 0 (fun r8 m9 => ((r8 = 0 → (vp_in p1 20 ∧ Q (m9 3 p1.toNatClampNeg) m9)) ∧ (¬ r8 = 0 → Q (-1) m9))))))))
theorem hin_X6_inHandsOf_6 : ∀ w ∈ u_ws RX6 TX6 24, w ∈ wsX6_inHandsOf := by decide +kernel
set_option maxHeartbeats 8000000 in
set_option maxRecDepth 100000 in
theorem cX6_inHandsOf_ok (l : Launch) (hlt : l.stackTraces = false) (D : zD) (S0 : Nat) (g : zF) (m0 : mS) (p1 : Int32)  (Q : Int32 → mS → Prop) (h : wX6_inHandsOf m0 p1 Q) : Met l yX6_inHandsOf wsX6_inHandsOf { frames := 2, cells := 0, slots := 8 * (0), locals := 44 } (zPc D S0 (mR D S0 g m0) [.ref (S0 + 9), .int p1]) (va_Qi Q (zB D S0 (fun u => mR D S0 g u)) (zA S0)) (0) (8 * (0)) (zA S0) := by
  refine zMet (cc := cX6_inHandsOf) (maxL := 2) (ret := (some .int)) (by decide) rfl (Nat.le_of_ble_eq_true rfl) (fun p e s m args below meth c ls hx hb hr hml hown hts hlocks hnm hs hE hW hl => ?_)
  have hin6 := hin_X6_inHandsOf_6
  replace hl : lv_has ls 2 [(0, .ref (S0 + 9)), (1, .int p1)] := hl
  unfold wX6_inHandsOf at h
  refine lv_aload_n hx hb dX6_inHandsOf_0 rfl (lv_at hl 0 rfl) ?_
  refine lv_aload_n hx hb dX6_inHandsOf_1 rfl (lv_at hl 0 rfl) ?_
  refine lv_iload_n hx hb dX6_inHandsOf_2 rfl (lv_at hl 1 rfl) ?_
  refine zc_i (va_runV (As := [.int p1]) (rest := [.ref (S0 + 9)]) ⟨hx, hb, hml, hown, hts⟩ (cX6_isCopy_ok l hlt D S0 g m0 p1 _ h) (cwV 1 hts gX6_inHandsOf_X6_isCopy rfl rfl rfl (by decide +kernel) ⟨Nat.le_of_ble_eq_true rfl, Nat.le_of_ble_eq_true rfl⟩) (zpreV (q := (RX6, TX6, 24)) hE hs hW mC_M rfl) rfl rfl hl.1 rfl (lv_room (Nat.le_of_ble_eq_true rfl)) dX6_inHandsOf_3 ⟨by show _ ≤ 0; omega, by show _ ≤ 8 * (0); omega⟩) hW (fun r1 m2 H locs h hW => ?_)
  obtain ⟨h, hz_r1⟩ := h
  refine W.widen (k := 0) (n := 8 * (0)) (by omega) (by omega) ?_
  refine lv_if_eq (tgt := 13) hx hb dX6_inHandsOf_6 (by decide) (fun c_3 => ?_) (fun c_3 => ?_)
  · replace h := h.1 c_3
    refine lv_iconst (v := 1) hx hb dX6_inHandsOf_13 (by decide) ?_
    refine zc_i (va_runV (As := [.int 1]) (rest := []) ⟨hx, hb, hml, hown, hts⟩ (cX6_holds_ok l hlt D S0 g m2 1 _ h) (cwV 1 hts gX6_inHandsOf_X6_holds rfl rfl rfl (by decide +kernel) ⟨Nat.le_of_ble_eq_true rfl, Nat.le_of_ble_eq_true rfl⟩) (zpreV (q := (RX6, TX6, 24)) hE hs hW mC_M rfl) rfl rfl hl.1 rfl (lv_room (Nat.le_of_ble_eq_true rfl)) dX6_inHandsOf_14 ⟨by show _ ≤ 0; omega, by show _ ≤ 8 * (0); omega⟩) hW (fun r4 m5 H locs h hW => ?_)
    obtain ⟨h, hz_r4⟩ := h
    refine W.widen (k := 0) (n := 8 * (0)) (by omega) (by omega) ?_
    refine lv_if_eq (tgt := 24) hx hb dX6_inHandsOf_17 (by decide) (fun c_6 => ?_) (fun c_6 => ?_)
    · replace h := h.1 c_6
      refine lv_aload_n hx hb dX6_inHandsOf_24 rfl (lv_at hl 0 rfl) ?_
      refine zw_get (C := RX6) (T := TX6) (N := 24) hx hb hts hin6 hown hE.1 hW mC_M rfl 3 (by decide) (hts (.fieldLink RX6 19 "UnionListModel" "hands" "[I") (by decide +kernel)) (fun _ h9 => h9) rfl dX6_inHandsOf_25 ?_
      refine lv_iload_n hx hb dX6_inHandsOf_28 rfl (lv_at hl 1 rfl) ?_
      obtain ⟨hb_7, h⟩ := h
      refine zw_iald hx hb hE.1 hW mC_3 hb_7 dX6_inHandsOf_29 ?_
      refine W.widen (k := 0) (n := 8 * (0)) (by omega) (by omega) ?_
      exact (z_iret hx hb hr hlocks hW h dX6_inHandsOf_30)
    · replace h := h.2 c_6
      refine lv_iconst (v := (-1)) hx hb dX6_inHandsOf_20 (by decide) ?_
      refine lv_goto (tgt := 30) hx hb dX6_inHandsOf_21 (by decide) ?_
      refine W.widen (k := 0) (n := 8 * (0)) (by omega) (by omega) ?_
      exact (z_iret hx hb hr hlocks hW h dX6_inHandsOf_30)
  · replace h := h.2 c_3
    refine lv_iconst (v := 0) hx hb dX6_inHandsOf_9 (by decide) ?_
    refine lv_goto (tgt := 14) hx hb dX6_inHandsOf_10 (by decide) ?_
    refine zc_i (va_runV (As := [.int 0]) (rest := []) ⟨hx, hb, hml, hown, hts⟩ (cX6_holds_ok l hlt D S0 g m2 0 _ h) (cwV 1 hts gX6_inHandsOf_X6_holds rfl rfl rfl (by decide +kernel) ⟨Nat.le_of_ble_eq_true rfl, Nat.le_of_ble_eq_true rfl⟩) (zpreV (q := (RX6, TX6, 24)) hE hs hW mC_M rfl) rfl rfl hl.1 rfl (lv_room (Nat.le_of_ble_eq_true rfl)) dX6_inHandsOf_14 ⟨by show _ ≤ 0; omega, by show _ ≤ 8 * (0); omega⟩) hW (fun r8 m9 H locs h hW => ?_)
    obtain ⟨h, hz_r8⟩ := h
    refine W.widen (k := 0) (n := 8 * (0)) (by omega) (by omega) ?_
    refine lv_if_eq (tgt := 24) hx hb dX6_inHandsOf_17 (by decide) (fun c_10 => ?_) (fun c_10 => ?_)
    · replace h := h.1 c_10
      refine lv_aload_n hx hb dX6_inHandsOf_24 rfl (lv_at hl 0 rfl) ?_
      refine zw_get (C := RX6) (T := TX6) (N := 24) hx hb hts hin6 hown hE.1 hW mC_M rfl 3 (by decide) (hts (.fieldLink RX6 19 "UnionListModel" "hands" "[I") (by decide +kernel)) (fun _ h9 => h9) rfl dX6_inHandsOf_25 ?_
      refine lv_iload_n hx hb dX6_inHandsOf_28 rfl (lv_at hl 1 rfl) ?_
      obtain ⟨hb_11, h⟩ := h
      refine zw_iald hx hb hE.1 hW mC_3 hb_11 dX6_inHandsOf_29 ?_
      refine W.widen (k := 0) (n := 8 * (0)) (by omega) (by omega) ?_
      exact (z_iret hx hb hr hlocks hW h dX6_inHandsOf_30)
    · replace h := h.2 c_10
      refine lv_iconst (v := (-1)) hx hb dX6_inHandsOf_20 (by decide) ?_
      refine lv_goto (tgt := 30) hx hb dX6_inHandsOf_21 (by decide) ?_
      refine W.widen (k := 0) (n := 8 * (0)) (by omega) (by omega) ?_
      exact (z_iret hx hb hr hlocks hW h dX6_inHandsOf_30)

def wX6_isFree (m0 : mS) (p1 : Int32) (Q : Int32 → mS → Prop) : Prop := (wX6_isCopy m0 p1 (fun r1 m2 => ((r1 = 0 → (wX6_holds m2 1 (fun r4 m5 => ((r4 = 0 → (wX6_free m5 p1 (fun r7 m8 => ((r7 = 0 → Q 0 m8) ∧ (¬ r7 = 0 → Q 1 m8))))) ∧ (¬ r4 = 0 → Q 0 m5))))) ∧ (¬ r1 = 0 → (wX6_holds m2 0 (fun r10 m11 => ((r10 = 0 → (wX6_free m11 p1 (fun r13 m14 => ((r13 = 0 → Q 0 m14) ∧ (¬ r13 = 0 → Q 1 m14))))) ∧ (¬ r10 = 0 → Q 0 m11))))))))
set_option maxHeartbeats 8000000 in
set_option maxRecDepth 100000 in
theorem cX6_isFree_ok (l : Launch) (hlt : l.stackTraces = false) (D : zD) (S0 : Nat) (g : zF) (m0 : mS) (p1 : Int32)  (Q : Int32 → mS → Prop) (h : wX6_isFree m0 p1 Q) : Met l yX6_isFree wsX6_isFree { frames := 2, cells := 0, slots := 8 * (0), locals := 44 } (zPc D S0 (mR D S0 g m0) [.ref (S0 + 9), .int p1]) (va_Qi (fun r u => Q r u ∧ (r = 0 ∨ r = 1)) (zB D S0 (fun u => mR D S0 g u)) (zA S0)) (0) (8 * (0)) (zA S0) := by
  refine zMet (cc := cX6_isFree) (maxL := 2) (ret := (some .boolean)) (by decide) rfl (Nat.le_of_ble_eq_true rfl) (fun p e s m args below meth c ls hx hb hr hml hown hts hlocks hnm hs hE hW hl => ?_)
  replace hl : lv_has ls 2 [(0, .ref (S0 + 9)), (1, .int p1)] := hl
  unfold wX6_isFree at h
  refine lv_aload_n hx hb dX6_isFree_0 rfl (lv_at hl 0 rfl) ?_
  refine lv_aload_n hx hb dX6_isFree_1 rfl (lv_at hl 0 rfl) ?_
  refine lv_iload_n hx hb dX6_isFree_2 rfl (lv_at hl 1 rfl) ?_
  refine zc_i (va_runV (As := [.int p1]) (rest := [.ref (S0 + 9)]) ⟨hx, hb, hml, hown, hts⟩ (cX6_isCopy_ok l hlt D S0 g m0 p1 _ h) (cwV 1 hts gX6_isFree_X6_isCopy rfl rfl rfl (by decide +kernel) ⟨Nat.le_of_ble_eq_true rfl, Nat.le_of_ble_eq_true rfl⟩) (zpreV (q := (RX6, TX6, 24)) hE hs hW mC_M rfl) rfl rfl hl.1 rfl (lv_room (Nat.le_of_ble_eq_true rfl)) dX6_isFree_3 ⟨by show _ ≤ 0; omega, by show _ ≤ 8 * (0); omega⟩) hW (fun r1 m2 H locs h hW => ?_)
  obtain ⟨h, hz_r1⟩ := h
  refine W.widen (k := 0) (n := 8 * (0)) (by omega) (by omega) ?_
  refine lv_if_eq (tgt := 13) hx hb dX6_isFree_6 (by decide) (fun c_3 => ?_) (fun c_3 => ?_)
  · replace h := h.1 c_3
    refine lv_iconst (v := 1) hx hb dX6_isFree_13 (by decide) ?_
    refine zc_i (va_runV (As := [.int 1]) (rest := []) ⟨hx, hb, hml, hown, hts⟩ (cX6_holds_ok l hlt D S0 g m2 1 _ h) (cwV 1 hts gX6_isFree_X6_holds rfl rfl rfl (by decide +kernel) ⟨Nat.le_of_ble_eq_true rfl, Nat.le_of_ble_eq_true rfl⟩) (zpreV (q := (RX6, TX6, 24)) hE hs hW mC_M rfl) rfl rfl hl.1 rfl (lv_room (Nat.le_of_ble_eq_true rfl)) dX6_isFree_14 ⟨by show _ ≤ 0; omega, by show _ ≤ 8 * (0); omega⟩) hW (fun r4 m5 H locs h hW => ?_)
    obtain ⟨h, hz_r4⟩ := h
    refine W.widen (k := 0) (n := 8 * (0)) (by omega) (by omega) ?_
    refine lv_if_ne (tgt := 32) hx hb dX6_isFree_17 (by decide) (fun c_6 => ?_) (fun c_6 => ?_)
    · replace h := h.2 c_6
      refine lv_iconst (v := 0) hx hb dX6_isFree_32 (by decide) ?_
      refine W.widen (k := 0) (n := 8 * (0)) (by omega) (by omega) ?_
      exact (z_zret hx hb hr hlocks hW rfl ⟨h, (Or.inl rfl)⟩ dX6_isFree_33)
    · replace h := h.1 c_6
      refine lv_aload_n hx hb dX6_isFree_20 rfl (lv_at hl 0 rfl) ?_
      refine lv_iload_n hx hb dX6_isFree_21 rfl (lv_at hl 1 rfl) ?_
      refine zc_i (va_runV (As := [.int p1]) (rest := []) ⟨hx, hb, hml, hown, hts⟩ (cX6_free_ok l hlt D S0 g m5 p1 _ h) (cwV 1 hts gX6_isFree_X6_free rfl rfl rfl (by decide +kernel) ⟨Nat.le_of_ble_eq_true rfl, Nat.le_of_ble_eq_true rfl⟩) (zpreV (q := (RX6, TX6, 24)) hE hs hW mC_M rfl) rfl rfl hl.1 rfl (lv_room (Nat.le_of_ble_eq_true rfl)) dX6_isFree_22 ⟨by show _ ≤ 0; omega, by show _ ≤ 8 * (0); omega⟩) hW (fun r7 m8 H locs h hW => ?_)
      obtain ⟨h, hz_r7⟩ := h
      refine W.widen (k := 0) (n := 8 * (0)) (by omega) (by omega) ?_
      refine lv_if_eq (tgt := 32) hx hb dX6_isFree_25 (by decide) (fun c_9 => ?_) (fun c_9 => ?_)
      · replace h := h.1 c_9
        refine lv_iconst (v := 0) hx hb dX6_isFree_32 (by decide) ?_
        refine W.widen (k := 0) (n := 8 * (0)) (by omega) (by omega) ?_
        exact (z_zret hx hb hr hlocks hW rfl ⟨h, (Or.inl rfl)⟩ dX6_isFree_33)
      · replace h := h.2 c_9
        refine lv_iconst (v := 1) hx hb dX6_isFree_28 (by decide) ?_
        refine lv_goto (tgt := 33) hx hb dX6_isFree_29 (by decide) ?_
        refine W.widen (k := 0) (n := 8 * (0)) (by omega) (by omega) ?_
        exact (z_zret hx hb hr hlocks hW rfl ⟨h, (Or.inr rfl)⟩ dX6_isFree_33)
  · replace h := h.2 c_3
    refine lv_iconst (v := 0) hx hb dX6_isFree_9 (by decide) ?_
    refine lv_goto (tgt := 14) hx hb dX6_isFree_10 (by decide) ?_
    refine zc_i (va_runV (As := [.int 0]) (rest := []) ⟨hx, hb, hml, hown, hts⟩ (cX6_holds_ok l hlt D S0 g m2 0 _ h) (cwV 1 hts gX6_isFree_X6_holds rfl rfl rfl (by decide +kernel) ⟨Nat.le_of_ble_eq_true rfl, Nat.le_of_ble_eq_true rfl⟩) (zpreV (q := (RX6, TX6, 24)) hE hs hW mC_M rfl) rfl rfl hl.1 rfl (lv_room (Nat.le_of_ble_eq_true rfl)) dX6_isFree_14 ⟨by show _ ≤ 0; omega, by show _ ≤ 8 * (0); omega⟩) hW (fun r10 m11 H locs h hW => ?_)
    obtain ⟨h, hz_r10⟩ := h
    refine W.widen (k := 0) (n := 8 * (0)) (by omega) (by omega) ?_
    refine lv_if_ne (tgt := 32) hx hb dX6_isFree_17 (by decide) (fun c_12 => ?_) (fun c_12 => ?_)
    · replace h := h.2 c_12
      refine lv_iconst (v := 0) hx hb dX6_isFree_32 (by decide) ?_
      refine W.widen (k := 0) (n := 8 * (0)) (by omega) (by omega) ?_
      exact (z_zret hx hb hr hlocks hW rfl ⟨h, (Or.inl rfl)⟩ dX6_isFree_33)
    · replace h := h.1 c_12
      refine lv_aload_n hx hb dX6_isFree_20 rfl (lv_at hl 0 rfl) ?_
      refine lv_iload_n hx hb dX6_isFree_21 rfl (lv_at hl 1 rfl) ?_
      refine zc_i (va_runV (As := [.int p1]) (rest := []) ⟨hx, hb, hml, hown, hts⟩ (cX6_free_ok l hlt D S0 g m11 p1 _ h) (cwV 1 hts gX6_isFree_X6_free rfl rfl rfl (by decide +kernel) ⟨Nat.le_of_ble_eq_true rfl, Nat.le_of_ble_eq_true rfl⟩) (zpreV (q := (RX6, TX6, 24)) hE hs hW mC_M rfl) rfl rfl hl.1 rfl (lv_room (Nat.le_of_ble_eq_true rfl)) dX6_isFree_22 ⟨by show _ ≤ 0; omega, by show _ ≤ 8 * (0); omega⟩) hW (fun r13 m14 H locs h hW => ?_)
      obtain ⟨h, hz_r13⟩ := h
      refine W.widen (k := 0) (n := 8 * (0)) (by omega) (by omega) ?_
      refine lv_if_eq (tgt := 32) hx hb dX6_isFree_25 (by decide) (fun c_15 => ?_) (fun c_15 => ?_)
      · replace h := h.1 c_15
        refine lv_iconst (v := 0) hx hb dX6_isFree_32 (by decide) ?_
        refine W.widen (k := 0) (n := 8 * (0)) (by omega) (by omega) ?_
        exact (z_zret hx hb hr hlocks hW rfl ⟨h, (Or.inl rfl)⟩ dX6_isFree_33)
      · replace h := h.2 c_15
        refine lv_iconst (v := 1) hx hb dX6_isFree_28 (by decide) ?_
        refine lv_goto (tgt := 33) hx hb dX6_isFree_29 (by decide) ?_
        refine W.widen (k := 0) (n := 8 * (0)) (by omega) (by omega) ?_
        exact (z_zret hx hb hr hlocks hW rfl ⟨h, (Or.inr rfl)⟩ dX6_isFree_33)

def wX6_listed (m0 : mS) (p1 : Int32) (Q : Int32 → mS → Prop) : Prop := (wX6_isCopy m0 p1 (fun r1 m2 => ((r1 = 0 → (wX6_holds m2 1 (fun r4 m5 => ((r4 = 0 → (vp_in p1 20 ∧ Q (m5 4 p1.toNatClampNeg) m5)) ∧ (¬ r4 = 0 → Q (-1) m5))))) ∧ (¬ r1 = 0 → (wX6_holds m2 0 (fun r8 m9 => ((r8 = 0 → (vp_in p1 20 ∧ Q (m9 4 p1.toNatClampNeg) m9)) ∧ (¬ r8 = 0 → Q (-1) m9))))))))
theorem hin_X6_listed_6 : ∀ w ∈ u_ws RX6 TX6 24, w ∈ wsX6_listed := by decide +kernel
set_option maxHeartbeats 8000000 in
set_option maxRecDepth 100000 in
theorem cX6_listed_ok (l : Launch) (hlt : l.stackTraces = false) (D : zD) (S0 : Nat) (g : zF) (m0 : mS) (p1 : Int32)  (Q : Int32 → mS → Prop) (h : wX6_listed m0 p1 Q) : Met l yX6_listed wsX6_listed { frames := 2, cells := 0, slots := 8 * (0), locals := 44 } (zPc D S0 (mR D S0 g m0) [.ref (S0 + 9), .int p1]) (va_Qi Q (zB D S0 (fun u => mR D S0 g u)) (zA S0)) (0) (8 * (0)) (zA S0) := by
  refine zMet (cc := cX6_listed) (maxL := 2) (ret := (some .int)) (by decide) rfl (Nat.le_of_ble_eq_true rfl) (fun p e s m args below meth c ls hx hb hr hml hown hts hlocks hnm hs hE hW hl => ?_)
  have hin6 := hin_X6_listed_6
  replace hl : lv_has ls 2 [(0, .ref (S0 + 9)), (1, .int p1)] := hl
  unfold wX6_listed at h
  refine lv_aload_n hx hb dX6_listed_0 rfl (lv_at hl 0 rfl) ?_
  refine lv_aload_n hx hb dX6_listed_1 rfl (lv_at hl 0 rfl) ?_
  refine lv_iload_n hx hb dX6_listed_2 rfl (lv_at hl 1 rfl) ?_
  refine zc_i (va_runV (As := [.int p1]) (rest := [.ref (S0 + 9)]) ⟨hx, hb, hml, hown, hts⟩ (cX6_isCopy_ok l hlt D S0 g m0 p1 _ h) (cwV 1 hts gX6_listed_X6_isCopy rfl rfl rfl (by decide +kernel) ⟨Nat.le_of_ble_eq_true rfl, Nat.le_of_ble_eq_true rfl⟩) (zpreV (q := (RX6, TX6, 24)) hE hs hW mC_M rfl) rfl rfl hl.1 rfl (lv_room (Nat.le_of_ble_eq_true rfl)) dX6_listed_3 ⟨by show _ ≤ 0; omega, by show _ ≤ 8 * (0); omega⟩) hW (fun r1 m2 H locs h hW => ?_)
  obtain ⟨h, hz_r1⟩ := h
  refine W.widen (k := 0) (n := 8 * (0)) (by omega) (by omega) ?_
  refine lv_if_eq (tgt := 13) hx hb dX6_listed_6 (by decide) (fun c_3 => ?_) (fun c_3 => ?_)
  · replace h := h.1 c_3
    refine lv_iconst (v := 1) hx hb dX6_listed_13 (by decide) ?_
    refine zc_i (va_runV (As := [.int 1]) (rest := []) ⟨hx, hb, hml, hown, hts⟩ (cX6_holds_ok l hlt D S0 g m2 1 _ h) (cwV 1 hts gX6_listed_X6_holds rfl rfl rfl (by decide +kernel) ⟨Nat.le_of_ble_eq_true rfl, Nat.le_of_ble_eq_true rfl⟩) (zpreV (q := (RX6, TX6, 24)) hE hs hW mC_M rfl) rfl rfl hl.1 rfl (lv_room (Nat.le_of_ble_eq_true rfl)) dX6_listed_14 ⟨by show _ ≤ 0; omega, by show _ ≤ 8 * (0); omega⟩) hW (fun r4 m5 H locs h hW => ?_)
    obtain ⟨h, hz_r4⟩ := h
    refine W.widen (k := 0) (n := 8 * (0)) (by omega) (by omega) ?_
    refine lv_if_eq (tgt := 24) hx hb dX6_listed_17 (by decide) (fun c_6 => ?_) (fun c_6 => ?_)
    · replace h := h.1 c_6
      refine lv_aload_n hx hb dX6_listed_24 rfl (lv_at hl 0 rfl) ?_
      refine zw_get (C := RX6) (T := TX6) (N := 24) hx hb hts hin6 hown hE.1 hW mC_M rfl 4 (by decide) (hts (.fieldLink RX6 22 "UnionListModel" "knows" "[I") (by decide +kernel)) (fun _ h9 => h9) rfl dX6_listed_25 ?_
      refine lv_iload_n hx hb dX6_listed_28 rfl (lv_at hl 1 rfl) ?_
      obtain ⟨hb_7, h⟩ := h
      refine zw_iald hx hb hE.1 hW mC_4 hb_7 dX6_listed_29 ?_
      refine W.widen (k := 0) (n := 8 * (0)) (by omega) (by omega) ?_
      exact (z_iret hx hb hr hlocks hW h dX6_listed_30)
    · replace h := h.2 c_6
      refine lv_iconst (v := (-1)) hx hb dX6_listed_20 (by decide) ?_
      refine lv_goto (tgt := 30) hx hb dX6_listed_21 (by decide) ?_
      refine W.widen (k := 0) (n := 8 * (0)) (by omega) (by omega) ?_
      exact (z_iret hx hb hr hlocks hW h dX6_listed_30)
  · replace h := h.2 c_3
    refine lv_iconst (v := 0) hx hb dX6_listed_9 (by decide) ?_
    refine lv_goto (tgt := 14) hx hb dX6_listed_10 (by decide) ?_
    refine zc_i (va_runV (As := [.int 0]) (rest := []) ⟨hx, hb, hml, hown, hts⟩ (cX6_holds_ok l hlt D S0 g m2 0 _ h) (cwV 1 hts gX6_listed_X6_holds rfl rfl rfl (by decide +kernel) ⟨Nat.le_of_ble_eq_true rfl, Nat.le_of_ble_eq_true rfl⟩) (zpreV (q := (RX6, TX6, 24)) hE hs hW mC_M rfl) rfl rfl hl.1 rfl (lv_room (Nat.le_of_ble_eq_true rfl)) dX6_listed_14 ⟨by show _ ≤ 0; omega, by show _ ≤ 8 * (0); omega⟩) hW (fun r8 m9 H locs h hW => ?_)
    obtain ⟨h, hz_r8⟩ := h
    refine W.widen (k := 0) (n := 8 * (0)) (by omega) (by omega) ?_
    refine lv_if_eq (tgt := 24) hx hb dX6_listed_17 (by decide) (fun c_10 => ?_) (fun c_10 => ?_)
    · replace h := h.1 c_10
      refine lv_aload_n hx hb dX6_listed_24 rfl (lv_at hl 0 rfl) ?_
      refine zw_get (C := RX6) (T := TX6) (N := 24) hx hb hts hin6 hown hE.1 hW mC_M rfl 4 (by decide) (hts (.fieldLink RX6 22 "UnionListModel" "knows" "[I") (by decide +kernel)) (fun _ h9 => h9) rfl dX6_listed_25 ?_
      refine lv_iload_n hx hb dX6_listed_28 rfl (lv_at hl 1 rfl) ?_
      obtain ⟨hb_11, h⟩ := h
      refine zw_iald hx hb hE.1 hW mC_4 hb_11 dX6_listed_29 ?_
      refine W.widen (k := 0) (n := 8 * (0)) (by omega) (by omega) ?_
      exact (z_iret hx hb hr hlocks hW h dX6_listed_30)
    · replace h := h.2 c_10
      refine lv_iconst (v := (-1)) hx hb dX6_listed_20 (by decide) ?_
      refine lv_goto (tgt := 30) hx hb dX6_listed_21 (by decide) ?_
      refine W.widen (k := 0) (n := 8 * (0)) (by omega) (by omega) ?_
      exact (z_iret hx hb hr hlocks hW h dX6_listed_30)

def wX6_harm (m0 : mS) (p1 : Int32) (Q : Int32 → mS → Prop) : Prop := (wX6_isCopy m0 p1 (fun r1 m2 => ((r1 = 0 → (wX6_holds m2 1 (fun r20 m21 => ((r20 = 0 → (vp_in p1 20 ∧ (vp_in p1 20 ∧ (∀ m25 : mS, m25 = mset m21 5 p1.toNatClampNeg (m21 3 p1.toNatClampNeg) → (vp_in p1 20 ∧ Q (m25 3 p1.toNatClampNeg) m25))))) ∧ (¬ r20 = 0 → Q (-1) m21))))) ∧ (¬ r1 = 0 → (vp_in p1 20 ∧ (((m2 5 p1.toNatClampNeg) < 0 → (wX6_holds m2 0 (fun r6 m7 => ((r6 = 0 → (vp_in p1 20 ∧ (vp_in p1 20 ∧ (∀ m11 : mS, m11 = mset m7 5 p1.toNatClampNeg (m7 3 p1.toNatClampNeg) → (vp_in p1 20 ∧ Q (m11 3 p1.toNatClampNeg) m11))))) ∧ (¬ r6 = 0 → Q (-1) m7))))) ∧ (¬ (m2 5 p1.toNatClampNeg) < 0 → (wX6_holds m2 2 (fun r13 m14 => ((r13 = 0 → (vp_in p1 20 ∧ (vp_in p1 20 ∧ (∀ m18 : mS, m18 = mset m14 5 p1.toNatClampNeg (m14 3 p1.toNatClampNeg) → (vp_in p1 20 ∧ Q (m18 3 p1.toNatClampNeg) m18))))) ∧ (¬ r13 = 0 → Q (-1) m14)))))))))))
theorem hin_X6_harm_6 : ∀ w ∈ u_ws RX6 TX6 24, w ∈ wsX6_harm := by decide +kernel
set_option maxHeartbeats 8000000 in
set_option maxRecDepth 100000 in
theorem cX6_harm_ok (l : Launch) (hlt : l.stackTraces = false) (D : zD) (S0 : Nat) (g : zF) (m0 : mS) (p1 : Int32)  (Q : Int32 → mS → Prop) (h : wX6_harm m0 p1 Q) : Met l yX6_harm wsX6_harm { frames := 2, cells := 0, slots := 8 * (0), locals := 44 } (zPc D S0 (mR D S0 g m0) [.ref (S0 + 9), .int p1]) (va_Qi Q (zB D S0 (fun u => mR D S0 g u)) (zA S0)) (0) (8 * (0)) (zA S0) := by
  refine zMet (cc := cX6_harm) (maxL := 2) (ret := (some .int)) (by decide) rfl (Nat.le_of_ble_eq_true rfl) (fun p e s m args below meth c ls hx hb hr hml hown hts hlocks hnm hs hE hW hl => ?_)
  have hin6 := hin_X6_harm_6
  replace hl : lv_has ls 2 [(0, .ref (S0 + 9)), (1, .int p1)] := hl
  unfold wX6_harm at h
  refine lv_aload_n hx hb dX6_harm_0 rfl (lv_at hl 0 rfl) ?_
  refine lv_aload_n hx hb dX6_harm_1 rfl (lv_at hl 0 rfl) ?_
  refine lv_iload_n hx hb dX6_harm_2 rfl (lv_at hl 1 rfl) ?_
  refine zc_i (va_runV (As := [.int p1]) (rest := [.ref (S0 + 9)]) ⟨hx, hb, hml, hown, hts⟩ (cX6_isCopy_ok l hlt D S0 g m0 p1 _ h) (cwV 1 hts gX6_harm_X6_isCopy rfl rfl rfl (by decide +kernel) ⟨Nat.le_of_ble_eq_true rfl, Nat.le_of_ble_eq_true rfl⟩) (zpreV (q := (RX6, TX6, 24)) hE hs hW mC_M rfl) rfl rfl hl.1 rfl (lv_room (Nat.le_of_ble_eq_true rfl)) dX6_harm_3 ⟨by show _ ≤ 0; omega, by show _ ≤ 8 * (0); omega⟩) hW (fun r1 m2 H locs h hW => ?_)
  obtain ⟨h, hz_r1⟩ := h
  refine W.widen (k := 0) (n := 8 * (0)) (by omega) (by omega) ?_
  refine lv_if_ne (tgt := 13) hx hb dX6_harm_6 (by decide) (fun c_3 => ?_) (fun c_3 => ?_)
  · replace h := h.2 c_3
    refine lv_aload_n hx hb dX6_harm_13 rfl (lv_at hl 0 rfl) ?_
    refine zw_get (C := RX6) (T := TX6) (N := 24) hx hb hts hin6 hown hE.1 hW mC_M rfl 5 (by decide) (hts (.fieldLink RX6 25 "UnionListModel" "harmed" "[I") (by decide +kernel)) (fun _ h9 => h9) rfl dX6_harm_14 ?_
    refine lv_iload_n hx hb dX6_harm_17 rfl (lv_at hl 1 rfl) ?_
    obtain ⟨hb_4, h⟩ := h
    refine zw_iald hx hb hE.1 hW mC_5 hb_4 dX6_harm_18 ?_
    refine lv_if_lt (tgt := 26) hx hb dX6_harm_19 (by decide) (fun c_5 => ?_) (fun c_5 => ?_)
    · replace h := h.1 c_5
      refine lv_iconst (v := 0) hx hb dX6_harm_26 (by decide) ?_
      refine zc_i (va_runV (As := [.int 0]) (rest := []) ⟨hx, hb, hml, hown, hts⟩ (cX6_holds_ok l hlt D S0 g m2 0 _ h) (cwV 1 hts gX6_harm_X6_holds rfl rfl rfl (by decide +kernel) ⟨Nat.le_of_ble_eq_true rfl, Nat.le_of_ble_eq_true rfl⟩) (zpreV (q := (RX6, TX6, 24)) hE hs hW mC_M rfl) rfl rfl hl.1 rfl (lv_room (Nat.le_of_ble_eq_true rfl)) dX6_harm_27 ⟨by show _ ≤ 0; omega, by show _ ≤ 8 * (0); omega⟩) hW (fun r6 m7 H locs h hW => ?_)
      obtain ⟨h, hz_r6⟩ := h
      refine W.widen (k := 0) (n := 8 * (0)) (by omega) (by omega) ?_
      refine lv_if_eq (tgt := 35) hx hb dX6_harm_30 (by decide) (fun c_8 => ?_) (fun c_8 => ?_)
      · replace h := h.1 c_8
        refine lv_aload_n hx hb dX6_harm_35 rfl (lv_at hl 0 rfl) ?_
        refine zw_get (C := RX6) (T := TX6) (N := 24) hx hb hts hin6 hown hE.1 hW mC_M rfl 5 (by decide) (hts (.fieldLink RX6 25 "UnionListModel" "harmed" "[I") (by decide +kernel)) (fun _ h9 => h9) rfl dX6_harm_36 ?_
        refine lv_iload_n hx hb dX6_harm_39 rfl (lv_at hl 1 rfl) ?_
        refine lv_aload_n hx hb dX6_harm_40 rfl (lv_at hl 0 rfl) ?_
        refine zw_get (C := RX6) (T := TX6) (N := 24) hx hb hts hin6 hown hE.1 hW mC_M rfl 3 (by decide) (hts (.fieldLink RX6 19 "UnionListModel" "hands" "[I") (by decide +kernel)) (fun _ h9 => h9) rfl dX6_harm_41 ?_
        refine lv_iload_n hx hb dX6_harm_44 rfl (lv_at hl 1 rfl) ?_
        obtain ⟨hb_9, h⟩ := h
        refine zw_iald hx hb hE.1 hW mC_3 hb_9 dX6_harm_45 ?_
        obtain ⟨hb_10, h⟩ := h
        refine zw_iast hx hb hE.1 hW mC_5 hb_10 dX6_harm_46 mP_5 (fun H locs hW => ?_)
        obtain ⟨m11, em11⟩ : ∃ y, y = mset m7 5 p1.toNatClampNeg (m7 3 p1.toNatClampNeg) := ⟨_, rfl⟩
        rw [← em11] at hW
        replace h := h m11 em11
        refine lv_aload_n hx hb dX6_harm_47 rfl (lv_at hl 0 rfl) ?_
        refine zw_get (C := RX6) (T := TX6) (N := 24) hx hb hts hin6 hown hE.1 hW mC_M rfl 3 (by decide) (hts (.fieldLink RX6 19 "UnionListModel" "hands" "[I") (by decide +kernel)) (fun _ h9 => h9) rfl dX6_harm_48 ?_
        refine lv_iload_n hx hb dX6_harm_51 rfl (lv_at hl 1 rfl) ?_
        obtain ⟨hb_12, h⟩ := h
        refine zw_iald hx hb hE.1 hW mC_3 hb_12 dX6_harm_52 ?_
        refine W.widen (k := 0) (n := 8 * (0)) (by omega) (by omega) ?_
        exact (z_iret hx hb hr hlocks hW h dX6_harm_53)
      · replace h := h.2 c_8
        refine lv_iconst (v := (-1)) hx hb dX6_harm_33 (by decide) ?_
        refine W.widen (k := 0) (n := 8 * (0)) (by omega) (by omega) ?_
        exact (z_iret hx hb hr hlocks hW h dX6_harm_34)
    · replace h := h.2 c_5
      refine lv_iconst (v := 2) hx hb dX6_harm_22 (by decide) ?_
      refine lv_goto (tgt := 27) hx hb dX6_harm_23 (by decide) ?_
      refine zc_i (va_runV (As := [.int 2]) (rest := []) ⟨hx, hb, hml, hown, hts⟩ (cX6_holds_ok l hlt D S0 g m2 2 _ h) (cwV 1 hts gX6_harm_X6_holds rfl rfl rfl (by decide +kernel) ⟨Nat.le_of_ble_eq_true rfl, Nat.le_of_ble_eq_true rfl⟩) (zpreV (q := (RX6, TX6, 24)) hE hs hW mC_M rfl) rfl rfl hl.1 rfl (lv_room (Nat.le_of_ble_eq_true rfl)) dX6_harm_27 ⟨by show _ ≤ 0; omega, by show _ ≤ 8 * (0); omega⟩) hW (fun r13 m14 H locs h hW => ?_)
      obtain ⟨h, hz_r13⟩ := h
      refine W.widen (k := 0) (n := 8 * (0)) (by omega) (by omega) ?_
      refine lv_if_eq (tgt := 35) hx hb dX6_harm_30 (by decide) (fun c_15 => ?_) (fun c_15 => ?_)
      · replace h := h.1 c_15
        refine lv_aload_n hx hb dX6_harm_35 rfl (lv_at hl 0 rfl) ?_
        refine zw_get (C := RX6) (T := TX6) (N := 24) hx hb hts hin6 hown hE.1 hW mC_M rfl 5 (by decide) (hts (.fieldLink RX6 25 "UnionListModel" "harmed" "[I") (by decide +kernel)) (fun _ h9 => h9) rfl dX6_harm_36 ?_
        refine lv_iload_n hx hb dX6_harm_39 rfl (lv_at hl 1 rfl) ?_
        refine lv_aload_n hx hb dX6_harm_40 rfl (lv_at hl 0 rfl) ?_
        refine zw_get (C := RX6) (T := TX6) (N := 24) hx hb hts hin6 hown hE.1 hW mC_M rfl 3 (by decide) (hts (.fieldLink RX6 19 "UnionListModel" "hands" "[I") (by decide +kernel)) (fun _ h9 => h9) rfl dX6_harm_41 ?_
        refine lv_iload_n hx hb dX6_harm_44 rfl (lv_at hl 1 rfl) ?_
        obtain ⟨hb_16, h⟩ := h
        refine zw_iald hx hb hE.1 hW mC_3 hb_16 dX6_harm_45 ?_
        obtain ⟨hb_17, h⟩ := h
        refine zw_iast hx hb hE.1 hW mC_5 hb_17 dX6_harm_46 mP_5 (fun H locs hW => ?_)
        obtain ⟨m18, em18⟩ : ∃ y, y = mset m14 5 p1.toNatClampNeg (m14 3 p1.toNatClampNeg) := ⟨_, rfl⟩
        rw [← em18] at hW
        replace h := h m18 em18
        refine lv_aload_n hx hb dX6_harm_47 rfl (lv_at hl 0 rfl) ?_
        refine zw_get (C := RX6) (T := TX6) (N := 24) hx hb hts hin6 hown hE.1 hW mC_M rfl 3 (by decide) (hts (.fieldLink RX6 19 "UnionListModel" "hands" "[I") (by decide +kernel)) (fun _ h9 => h9) rfl dX6_harm_48 ?_
        refine lv_iload_n hx hb dX6_harm_51 rfl (lv_at hl 1 rfl) ?_
        obtain ⟨hb_19, h⟩ := h
        refine zw_iald hx hb hE.1 hW mC_3 hb_19 dX6_harm_52 ?_
        refine W.widen (k := 0) (n := 8 * (0)) (by omega) (by omega) ?_
        exact (z_iret hx hb hr hlocks hW h dX6_harm_53)
      · replace h := h.2 c_15
        refine lv_iconst (v := (-1)) hx hb dX6_harm_33 (by decide) ?_
        refine W.widen (k := 0) (n := 8 * (0)) (by omega) (by omega) ?_
        exact (z_iret hx hb hr hlocks hW h dX6_harm_34)
  · replace h := h.1 c_3
    refine lv_iconst (v := 1) hx hb dX6_harm_9 (by decide) ?_
    refine lv_goto (tgt := 27) hx hb dX6_harm_10 (by decide) ?_
    refine zc_i (va_runV (As := [.int 1]) (rest := []) ⟨hx, hb, hml, hown, hts⟩ (cX6_holds_ok l hlt D S0 g m2 1 _ h) (cwV 1 hts gX6_harm_X6_holds rfl rfl rfl (by decide +kernel) ⟨Nat.le_of_ble_eq_true rfl, Nat.le_of_ble_eq_true rfl⟩) (zpreV (q := (RX6, TX6, 24)) hE hs hW mC_M rfl) rfl rfl hl.1 rfl (lv_room (Nat.le_of_ble_eq_true rfl)) dX6_harm_27 ⟨by show _ ≤ 0; omega, by show _ ≤ 8 * (0); omega⟩) hW (fun r20 m21 H locs h hW => ?_)
    obtain ⟨h, hz_r20⟩ := h
    refine W.widen (k := 0) (n := 8 * (0)) (by omega) (by omega) ?_
    refine lv_if_eq (tgt := 35) hx hb dX6_harm_30 (by decide) (fun c_22 => ?_) (fun c_22 => ?_)
    · replace h := h.1 c_22
      refine lv_aload_n hx hb dX6_harm_35 rfl (lv_at hl 0 rfl) ?_
      refine zw_get (C := RX6) (T := TX6) (N := 24) hx hb hts hin6 hown hE.1 hW mC_M rfl 5 (by decide) (hts (.fieldLink RX6 25 "UnionListModel" "harmed" "[I") (by decide +kernel)) (fun _ h9 => h9) rfl dX6_harm_36 ?_
      refine lv_iload_n hx hb dX6_harm_39 rfl (lv_at hl 1 rfl) ?_
      refine lv_aload_n hx hb dX6_harm_40 rfl (lv_at hl 0 rfl) ?_
      refine zw_get (C := RX6) (T := TX6) (N := 24) hx hb hts hin6 hown hE.1 hW mC_M rfl 3 (by decide) (hts (.fieldLink RX6 19 "UnionListModel" "hands" "[I") (by decide +kernel)) (fun _ h9 => h9) rfl dX6_harm_41 ?_
      refine lv_iload_n hx hb dX6_harm_44 rfl (lv_at hl 1 rfl) ?_
      obtain ⟨hb_23, h⟩ := h
      refine zw_iald hx hb hE.1 hW mC_3 hb_23 dX6_harm_45 ?_
      obtain ⟨hb_24, h⟩ := h
      refine zw_iast hx hb hE.1 hW mC_5 hb_24 dX6_harm_46 mP_5 (fun H locs hW => ?_)
      obtain ⟨m25, em25⟩ : ∃ y, y = mset m21 5 p1.toNatClampNeg (m21 3 p1.toNatClampNeg) := ⟨_, rfl⟩
      rw [← em25] at hW
      replace h := h m25 em25
      refine lv_aload_n hx hb dX6_harm_47 rfl (lv_at hl 0 rfl) ?_
      refine zw_get (C := RX6) (T := TX6) (N := 24) hx hb hts hin6 hown hE.1 hW mC_M rfl 3 (by decide) (hts (.fieldLink RX6 19 "UnionListModel" "hands" "[I") (by decide +kernel)) (fun _ h9 => h9) rfl dX6_harm_48 ?_
      refine lv_iload_n hx hb dX6_harm_51 rfl (lv_at hl 1 rfl) ?_
      obtain ⟨hb_26, h⟩ := h
      refine zw_iald hx hb hE.1 hW mC_3 hb_26 dX6_harm_52 ?_
      refine W.widen (k := 0) (n := 8 * (0)) (by omega) (by omega) ?_
      exact (z_iret hx hb hr hlocks hW h dX6_harm_53)
    · replace h := h.2 c_22
      refine lv_iconst (v := (-1)) hx hb dX6_harm_33 (by decide) ?_
      refine W.widen (k := 0) (n := 8 * (0)) (by omega) (by omega) ?_
      exact (z_iret hx hb hr hlocks hW h dX6_harm_34)

def wX6_find (m0 : mS) (p1 : Int32) (Q : Int32 → mS → Prop) : Prop := (vp_in p1 20 ∧ (((m0 5 p1.toNatClampNeg) < 0 → Q (-1) m0) ∧ (¬ (m0 5 p1.toNatClampNeg) < 0 → (vp_in p1 20 ∧ (((m0 6 p1.toNatClampNeg) = 1 → Q (-1) m0) ∧ (¬ (m0 6 p1.toNatClampNeg) = 1 → (vp_in p1 20 ∧ (∀ m6 : mS, m6 = mset m0 6 p1.toNatClampNeg 1 → (vp_in p1 20 ∧ (vp_in p1 20 ∧ (((m6 5 p1.toNatClampNeg) = (m6 0 p1.toNatClampNeg) → (vp_in p1 20 ∧ Q (m6 5 p1.toNatClampNeg) m6)) ∧ (¬ (m6 5 p1.toNatClampNeg) = (m6 0 p1.toNatClampNeg) → (vp_in p1 20 ∧ (vp_in p1 20 ∧ (wX6_owe m6 (m6 5 p1.toNatClampNeg) (m6 0 p1.toNatClampNeg) 30 (fun m14 => (vp_in p1 20 ∧ Q (m14 5 p1.toNatClampNeg) m14)))))))))))))))))
theorem hin_X6_find_6 : ∀ w ∈ u_ws RX6 TX6 24, w ∈ wsX6_find := by decide +kernel
set_option maxHeartbeats 8000000 in
set_option maxRecDepth 100000 in
theorem cX6_find_ok (l : Launch) (hlt : l.stackTraces = false) (D : zD) (S0 : Nat) (g : zF) (m0 : mS) (p1 : Int32)  (Q : Int32 → mS → Prop) (h : wX6_find m0 p1 Q) : Met l yX6_find wsX6_find { frames := 1, cells := 0, slots := 8 * (0), locals := 23 } (zPc D S0 (mR D S0 g m0) [.ref (S0 + 9), .int p1]) (va_Qi Q (zB D S0 (fun u => mR D S0 g u)) (zA S0)) (0) (8 * (0)) (zA S0) := by
  refine zMet (cc := cX6_find) (maxL := 2) (ret := (some .int)) (by decide) rfl (Nat.le_of_ble_eq_true rfl) (fun p e s m args below meth c ls hx hb hr hml hown hts hlocks hnm hs hE hW hl => ?_)
  have hin6 := hin_X6_find_6
  replace hl : lv_has ls 2 [(0, .ref (S0 + 9)), (1, .int p1)] := hl
  unfold wX6_find at h
  refine lv_aload_n hx hb dX6_find_0 rfl (lv_at hl 0 rfl) ?_
  refine zw_get (C := RX6) (T := TX6) (N := 24) hx hb hts hin6 hown hE.1 hW mC_M rfl 5 (by decide) (hts (.fieldLink RX6 25 "UnionListModel" "harmed" "[I") (by decide +kernel)) (fun _ h9 => h9) rfl dX6_find_1 ?_
  refine lv_iload_n hx hb dX6_find_4 rfl (lv_at hl 1 rfl) ?_
  obtain ⟨hb_1, h⟩ := h
  refine zw_iald hx hb hE.1 hW mC_5 hb_1 dX6_find_5 ?_
  refine lv_if_lt (tgt := 19) hx hb dX6_find_6 (by decide) (fun c_2 => ?_) (fun c_2 => ?_)
  · replace h := h.1 c_2
    refine lv_iconst (v := (-1)) hx hb dX6_find_19 (by decide) ?_
    refine W.widen (k := 0) (n := 8 * (0)) (by omega) (by omega) ?_
    exact (z_iret hx hb hr hlocks hW h dX6_find_20)
  · replace h := h.2 c_2
    refine lv_aload_n hx hb dX6_find_9 rfl (lv_at hl 0 rfl) ?_
    refine zw_get (C := RX6) (T := TX6) (N := 24) hx hb hts hin6 hown hE.1 hW mC_M rfl 6 (by decide) (hts (.fieldLink RX6 28 "UnionListModel" "seen" "[I") (by decide +kernel)) (fun _ h9 => h9) rfl dX6_find_10 ?_
    refine lv_iload_n hx hb dX6_find_13 rfl (lv_at hl 1 rfl) ?_
    obtain ⟨hb_3, h⟩ := h
    refine zw_iald hx hb hE.1 hW mC_6 hb_3 dX6_find_14 ?_
    refine lv_iconst (v := 1) hx hb dX6_find_15 (by decide) ?_
    refine lv_icmp_ne (tgt := 21) hx hb dX6_find_16 (by decide) (fun c_4 => ?_) (fun c_4 => ?_)
    · replace h := h.2 c_4
      refine lv_aload_n hx hb dX6_find_21 rfl (lv_at hl 0 rfl) ?_
      refine zw_get (C := RX6) (T := TX6) (N := 24) hx hb hts hin6 hown hE.1 hW mC_M rfl 6 (by decide) (hts (.fieldLink RX6 28 "UnionListModel" "seen" "[I") (by decide +kernel)) (fun _ h9 => h9) rfl dX6_find_22 ?_
      refine lv_iload_n hx hb dX6_find_25 rfl (lv_at hl 1 rfl) ?_
      refine lv_iconst (v := 1) hx hb dX6_find_26 (by decide) ?_
      obtain ⟨hb_5, h⟩ := h
      refine zw_iast hx hb hE.1 hW mC_6 hb_5 dX6_find_27 mP_6 (fun H locs hW => ?_)
      obtain ⟨m6, em6⟩ : ∃ y, y = mset m0 6 p1.toNatClampNeg 1 := ⟨_, rfl⟩
      rw [← em6] at hW
      replace h := h m6 em6
      refine lv_aload_n hx hb dX6_find_28 rfl (lv_at hl 0 rfl) ?_
      refine zw_get (C := RX6) (T := TX6) (N := 24) hx hb hts hin6 hown hE.1 hW mC_M rfl 5 (by decide) (hts (.fieldLink RX6 25 "UnionListModel" "harmed" "[I") (by decide +kernel)) (fun _ h9 => h9) rfl dX6_find_29 ?_
      refine lv_iload_n hx hb dX6_find_32 rfl (lv_at hl 1 rfl) ?_
      obtain ⟨hb_7, h⟩ := h
      refine zw_iald hx hb hE.1 hW mC_5 hb_7 dX6_find_33 ?_
      refine lv_aload_n hx hb dX6_find_34 rfl (lv_at hl 0 rfl) ?_
      refine zw_get (C := RX6) (T := TX6) (N := 24) hx hb hts hin6 hown hE.1 hW mC_M rfl 0 (by decide) (hts (.fieldLink RX6 7 "UnionListModel" "home" "[I") (by decide +kernel)) (fun _ h9 => h9) rfl dX6_find_35 ?_
      refine lv_iload_n hx hb dX6_find_38 rfl (lv_at hl 1 rfl) ?_
      obtain ⟨hb_8, h⟩ := h
      refine zw_iald hx hb hE.1 hW mC_0 hb_8 dX6_find_39 ?_
      refine lv_icmp_eq (tgt := 61) hx hb dX6_find_40 (by decide) (fun c_9 => ?_) (fun c_9 => ?_)
      · replace h := h.1 c_9
        refine lv_aload_n hx hb dX6_find_61 rfl (lv_at hl 0 rfl) ?_
        refine zw_get (C := RX6) (T := TX6) (N := 24) hx hb hts hin6 hown hE.1 hW mC_M rfl 5 (by decide) (hts (.fieldLink RX6 25 "UnionListModel" "harmed" "[I") (by decide +kernel)) (fun _ h9 => h9) rfl dX6_find_62 ?_
        refine lv_iload_n hx hb dX6_find_65 rfl (lv_at hl 1 rfl) ?_
        obtain ⟨hb_10, h⟩ := h
        refine zw_iald hx hb hE.1 hW mC_5 hb_10 dX6_find_66 ?_
        refine W.widen (k := 0) (n := 8 * (0)) (by omega) (by omega) ?_
        exact (z_iret hx hb hr hlocks hW h dX6_find_67)
      · replace h := h.2 c_9
        refine lv_aload_n hx hb dX6_find_43 rfl (lv_at hl 0 rfl) ?_
        refine lv_aload_n hx hb dX6_find_44 rfl (lv_at hl 0 rfl) ?_
        refine zw_get (C := RX6) (T := TX6) (N := 24) hx hb hts hin6 hown hE.1 hW mC_M rfl 5 (by decide) (hts (.fieldLink RX6 25 "UnionListModel" "harmed" "[I") (by decide +kernel)) (fun _ h9 => h9) rfl dX6_find_45 ?_
        refine lv_iload_n hx hb dX6_find_48 rfl (lv_at hl 1 rfl) ?_
        obtain ⟨hb_11, h⟩ := h
        refine zw_iald hx hb hE.1 hW mC_5 hb_11 dX6_find_49 ?_
        refine lv_aload_n hx hb dX6_find_50 rfl (lv_at hl 0 rfl) ?_
        refine zw_get (C := RX6) (T := TX6) (N := 24) hx hb hts hin6 hown hE.1 hW mC_M rfl 0 (by decide) (hts (.fieldLink RX6 7 "UnionListModel" "home" "[I") (by decide +kernel)) (fun _ h9 => h9) rfl dX6_find_51 ?_
        refine lv_iload_n hx hb dX6_find_54 rfl (lv_at hl 1 rfl) ?_
        obtain ⟨hb_12, h⟩ := h
        refine zw_iald hx hb hE.1 hW mC_0 hb_12 dX6_find_55 ?_
        refine lv_bipush (v := 30) hx hb dX6_find_56 (by decide) ?_
        refine zc_v (va_runV (As := [.int (m6 5 p1.toNatClampNeg), .int (m6 0 p1.toNatClampNeg), .int 30]) (rest := []) ⟨hx, hb, hml, hown, hts⟩ (cX6_owe_ok l hlt D S0 g m6 (m6 5 p1.toNatClampNeg) (m6 0 p1.toNatClampNeg) 30 _ h) (cwV 3 hts gX6_find_X6_owe rfl rfl rfl (by decide +kernel) ⟨Nat.le_of_ble_eq_true rfl, Nat.le_of_ble_eq_true rfl⟩) (zpreV (q := (RX6, TX6, 24)) hE hs hW mC_M rfl) rfl rfl hl.1 rfl (lv_room (Nat.le_of_ble_eq_true rfl)) dX6_find_58 ⟨by show _ ≤ 0; omega, by show _ ≤ 8 * (0); omega⟩) hW (fun m14 H locs h hW => ?_)
        refine W.widen (k := 0) (n := 8 * (0)) (by omega) (by omega) ?_
        refine lv_aload_n hx hb dX6_find_61 rfl (lv_at hl 0 rfl) ?_
        refine zw_get (C := RX6) (T := TX6) (N := 24) hx hb hts hin6 hown hE.1 hW mC_M rfl 5 (by decide) (hts (.fieldLink RX6 25 "UnionListModel" "harmed" "[I") (by decide +kernel)) (fun _ h9 => h9) rfl dX6_find_62 ?_
        refine lv_iload_n hx hb dX6_find_65 rfl (lv_at hl 1 rfl) ?_
        obtain ⟨hb_15, h⟩ := h
        refine zw_iald hx hb hE.1 hW mC_5 hb_15 dX6_find_66 ?_
        refine W.widen (k := 0) (n := 8 * (0)) (by omega) (by omega) ?_
        exact (z_iret hx hb hr hlocks hW h dX6_find_67)
    · replace h := h.1 c_4
      refine lv_iconst (v := (-1)) hx hb dX6_find_19 (by decide) ?_
      refine W.widen (k := 0) (n := 8 * (0)) (by omega) (by omega) ?_
      exact (z_iret hx hb hr hlocks hW h dX6_find_20)

def wX6_look (m0 : mS) (p1 : Int32) (Q : Int32 → mS → Prop) : Prop := (wX6_isCopy m0 p1 (fun r1 m2 => ((r1 = 0 → (wX6_holds m2 1 (fun r16 m17 => ((r16 = 0 → (wX6_find m17 p1 (fun r19 m20 => Q r19 m20))) ∧ (¬ r16 = 0 → Q (-1) m17))))) ∧ (¬ r1 = 0 → (vp_in p1 20 ∧ ((0 ≤ (m2 2 p1.toNatClampNeg) → (wX6_holds m2 0 (fun r6 m7 => ((r6 = 0 → (wX6_find m7 p1 (fun r9 m10 => Q r9 m10))) ∧ (¬ r6 = 0 → Q (-1) m7))))) ∧ (¬ 0 ≤ (m2 2 p1.toNatClampNeg) → (wX6_holds m2 2 (fun r11 m12 => ((r11 = 0 → (wX6_find m12 p1 (fun r14 m15 => Q r14 m15))) ∧ (¬ r11 = 0 → Q (-1) m12)))))))))))
theorem hin_X6_look_6 : ∀ w ∈ u_ws RX6 TX6 24, w ∈ wsX6_look := by decide +kernel
set_option maxHeartbeats 8000000 in
set_option maxRecDepth 100000 in
theorem cX6_look_ok (l : Launch) (hlt : l.stackTraces = false) (D : zD) (S0 : Nat) (g : zF) (m0 : mS) (p1 : Int32)  (Q : Int32 → mS → Prop) (h : wX6_look m0 p1 Q) : Met l yX6_look wsX6_look { frames := 2, cells := 0, slots := 8 * (0), locals := 44 } (zPc D S0 (mR D S0 g m0) [.ref (S0 + 9), .int p1]) (va_Qi Q (zB D S0 (fun u => mR D S0 g u)) (zA S0)) (0) (8 * (0)) (zA S0) := by
  refine zMet (cc := cX6_look) (maxL := 2) (ret := (some .int)) (by decide) rfl (Nat.le_of_ble_eq_true rfl) (fun p e s m args below meth c ls hx hb hr hml hown hts hlocks hnm hs hE hW hl => ?_)
  have hin6 := hin_X6_look_6
  replace hl : lv_has ls 2 [(0, .ref (S0 + 9)), (1, .int p1)] := hl
  unfold wX6_look at h
  refine lv_aload_n hx hb dX6_look_0 rfl (lv_at hl 0 rfl) ?_
  refine lv_aload_n hx hb dX6_look_1 rfl (lv_at hl 0 rfl) ?_
  refine lv_iload_n hx hb dX6_look_2 rfl (lv_at hl 1 rfl) ?_
  refine zc_i (va_runV (As := [.int p1]) (rest := [.ref (S0 + 9)]) ⟨hx, hb, hml, hown, hts⟩ (cX6_isCopy_ok l hlt D S0 g m0 p1 _ h) (cwV 1 hts gX6_look_X6_isCopy rfl rfl rfl (by decide +kernel) ⟨Nat.le_of_ble_eq_true rfl, Nat.le_of_ble_eq_true rfl⟩) (zpreV (q := (RX6, TX6, 24)) hE hs hW mC_M rfl) rfl rfl hl.1 rfl (lv_room (Nat.le_of_ble_eq_true rfl)) dX6_look_3 ⟨by show _ ≤ 0; omega, by show _ ≤ 8 * (0); omega⟩) hW (fun r1 m2 H locs h hW => ?_)
  obtain ⟨h, hz_r1⟩ := h
  refine W.widen (k := 0) (n := 8 * (0)) (by omega) (by omega) ?_
  refine lv_if_ne (tgt := 13) hx hb dX6_look_6 (by decide) (fun c_3 => ?_) (fun c_3 => ?_)
  · replace h := h.2 c_3
    refine lv_aload_n hx hb dX6_look_13 rfl (lv_at hl 0 rfl) ?_
    refine zw_get (C := RX6) (T := TX6) (N := 24) hx hb hts hin6 hown hE.1 hW mC_M rfl 2 (by decide) (hts (.fieldLink RX6 16 "UnionListModel" "place" "[I") (by decide +kernel)) (fun _ h9 => h9) rfl dX6_look_14 ?_
    refine lv_iload_n hx hb dX6_look_17 rfl (lv_at hl 1 rfl) ?_
    obtain ⟨hb_4, h⟩ := h
    refine zw_iald hx hb hE.1 hW mC_2 hb_4 dX6_look_18 ?_
    refine lv_if_ge (tgt := 26) hx hb dX6_look_19 (by decide) (fun c_5 => ?_) (fun c_5 => ?_)
    · replace h := h.1 c_5
      refine lv_iconst (v := 0) hx hb dX6_look_26 (by decide) ?_
      refine zc_i (va_runV (As := [.int 0]) (rest := []) ⟨hx, hb, hml, hown, hts⟩ (cX6_holds_ok l hlt D S0 g m2 0 _ h) (cwV 1 hts gX6_look_X6_holds rfl rfl rfl (by decide +kernel) ⟨Nat.le_of_ble_eq_true rfl, Nat.le_of_ble_eq_true rfl⟩) (zpreV (q := (RX6, TX6, 24)) hE hs hW mC_M rfl) rfl rfl hl.1 rfl (lv_room (Nat.le_of_ble_eq_true rfl)) dX6_look_27 ⟨by show _ ≤ 0; omega, by show _ ≤ 8 * (0); omega⟩) hW (fun r6 m7 H locs h hW => ?_)
      obtain ⟨h, hz_r6⟩ := h
      refine W.widen (k := 0) (n := 8 * (0)) (by omega) (by omega) ?_
      refine lv_if_eq (tgt := 37) hx hb dX6_look_30 (by decide) (fun c_8 => ?_) (fun c_8 => ?_)
      · replace h := h.1 c_8
        refine lv_aload_n hx hb dX6_look_37 rfl (lv_at hl 0 rfl) ?_
        refine lv_iload_n hx hb dX6_look_38 rfl (lv_at hl 1 rfl) ?_
        refine zc_i (va_runV (As := [.int p1]) (rest := []) ⟨hx, hb, hml, hown, hts⟩ (cX6_find_ok l hlt D S0 g m7 p1 _ h) (cwV 1 hts gX6_look_X6_find rfl rfl rfl (by decide +kernel) ⟨Nat.le_of_ble_eq_true rfl, Nat.le_of_ble_eq_true rfl⟩) (zpreV (q := (RX6, TX6, 24)) hE hs hW mC_M rfl) rfl rfl hl.1 rfl (lv_room (Nat.le_of_ble_eq_true rfl)) dX6_look_39 ⟨by show _ ≤ 0; omega, by show _ ≤ 8 * (0); omega⟩) hW (fun r9 m10 H locs h hW => ?_)
        refine W.widen (k := 0) (n := 8 * (0)) (by omega) (by omega) ?_
        refine W.widen (k := 0) (n := 8 * (0)) (by omega) (by omega) ?_
        exact (z_iret hx hb hr hlocks hW h dX6_look_42)
      · replace h := h.2 c_8
        refine lv_iconst (v := (-1)) hx hb dX6_look_33 (by decide) ?_
        refine lv_goto (tgt := 42) hx hb dX6_look_34 (by decide) ?_
        refine W.widen (k := 0) (n := 8 * (0)) (by omega) (by omega) ?_
        exact (z_iret hx hb hr hlocks hW h dX6_look_42)
    · replace h := h.2 c_5
      refine lv_iconst (v := 2) hx hb dX6_look_22 (by decide) ?_
      refine lv_goto (tgt := 27) hx hb dX6_look_23 (by decide) ?_
      refine zc_i (va_runV (As := [.int 2]) (rest := []) ⟨hx, hb, hml, hown, hts⟩ (cX6_holds_ok l hlt D S0 g m2 2 _ h) (cwV 1 hts gX6_look_X6_holds rfl rfl rfl (by decide +kernel) ⟨Nat.le_of_ble_eq_true rfl, Nat.le_of_ble_eq_true rfl⟩) (zpreV (q := (RX6, TX6, 24)) hE hs hW mC_M rfl) rfl rfl hl.1 rfl (lv_room (Nat.le_of_ble_eq_true rfl)) dX6_look_27 ⟨by show _ ≤ 0; omega, by show _ ≤ 8 * (0); omega⟩) hW (fun r11 m12 H locs h hW => ?_)
      obtain ⟨h, hz_r11⟩ := h
      refine W.widen (k := 0) (n := 8 * (0)) (by omega) (by omega) ?_
      refine lv_if_eq (tgt := 37) hx hb dX6_look_30 (by decide) (fun c_13 => ?_) (fun c_13 => ?_)
      · replace h := h.1 c_13
        refine lv_aload_n hx hb dX6_look_37 rfl (lv_at hl 0 rfl) ?_
        refine lv_iload_n hx hb dX6_look_38 rfl (lv_at hl 1 rfl) ?_
        refine zc_i (va_runV (As := [.int p1]) (rest := []) ⟨hx, hb, hml, hown, hts⟩ (cX6_find_ok l hlt D S0 g m12 p1 _ h) (cwV 1 hts gX6_look_X6_find rfl rfl rfl (by decide +kernel) ⟨Nat.le_of_ble_eq_true rfl, Nat.le_of_ble_eq_true rfl⟩) (zpreV (q := (RX6, TX6, 24)) hE hs hW mC_M rfl) rfl rfl hl.1 rfl (lv_room (Nat.le_of_ble_eq_true rfl)) dX6_look_39 ⟨by show _ ≤ 0; omega, by show _ ≤ 8 * (0); omega⟩) hW (fun r14 m15 H locs h hW => ?_)
        refine W.widen (k := 0) (n := 8 * (0)) (by omega) (by omega) ?_
        refine W.widen (k := 0) (n := 8 * (0)) (by omega) (by omega) ?_
        exact (z_iret hx hb hr hlocks hW h dX6_look_42)
      · replace h := h.2 c_13
        refine lv_iconst (v := (-1)) hx hb dX6_look_33 (by decide) ?_
        refine lv_goto (tgt := 42) hx hb dX6_look_34 (by decide) ?_
        refine W.widen (k := 0) (n := 8 * (0)) (by omega) (by omega) ?_
        exact (z_iret hx hb hr hlocks hW h dX6_look_42)
  · replace h := h.1 c_3
    refine lv_iconst (v := 1) hx hb dX6_look_9 (by decide) ?_
    refine lv_goto (tgt := 27) hx hb dX6_look_10 (by decide) ?_
    refine zc_i (va_runV (As := [.int 1]) (rest := []) ⟨hx, hb, hml, hown, hts⟩ (cX6_holds_ok l hlt D S0 g m2 1 _ h) (cwV 1 hts gX6_look_X6_holds rfl rfl rfl (by decide +kernel) ⟨Nat.le_of_ble_eq_true rfl, Nat.le_of_ble_eq_true rfl⟩) (zpreV (q := (RX6, TX6, 24)) hE hs hW mC_M rfl) rfl rfl hl.1 rfl (lv_room (Nat.le_of_ble_eq_true rfl)) dX6_look_27 ⟨by show _ ≤ 0; omega, by show _ ≤ 8 * (0); omega⟩) hW (fun r16 m17 H locs h hW => ?_)
    obtain ⟨h, hz_r16⟩ := h
    refine W.widen (k := 0) (n := 8 * (0)) (by omega) (by omega) ?_
    refine lv_if_eq (tgt := 37) hx hb dX6_look_30 (by decide) (fun c_18 => ?_) (fun c_18 => ?_)
    · replace h := h.1 c_18
      refine lv_aload_n hx hb dX6_look_37 rfl (lv_at hl 0 rfl) ?_
      refine lv_iload_n hx hb dX6_look_38 rfl (lv_at hl 1 rfl) ?_
      refine zc_i (va_runV (As := [.int p1]) (rest := []) ⟨hx, hb, hml, hown, hts⟩ (cX6_find_ok l hlt D S0 g m17 p1 _ h) (cwV 1 hts gX6_look_X6_find rfl rfl rfl (by decide +kernel) ⟨Nat.le_of_ble_eq_true rfl, Nat.le_of_ble_eq_true rfl⟩) (zpreV (q := (RX6, TX6, 24)) hE hs hW mC_M rfl) rfl rfl hl.1 rfl (lv_room (Nat.le_of_ble_eq_true rfl)) dX6_look_39 ⟨by show _ ≤ 0; omega, by show _ ≤ 8 * (0); omega⟩) hW (fun r19 m20 H locs h hW => ?_)
      refine W.widen (k := 0) (n := 8 * (0)) (by omega) (by omega) ?_
      refine W.widen (k := 0) (n := 8 * (0)) (by omega) (by omega) ?_
      exact (z_iret hx hb hr hlocks hW h dX6_look_42)
    · replace h := h.2 c_18
      refine lv_iconst (v := (-1)) hx hb dX6_look_33 (by decide) ?_
      refine lv_goto (tgt := 42) hx hb dX6_look_34 (by decide) ?_
      refine W.widen (k := 0) (n := 8 * (0)) (by omega) (by omega) ?_
      exact (z_iret hx hb hr hlocks hW h dX6_look_42)
end
