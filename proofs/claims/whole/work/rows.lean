section
-- ===== PART A: goes FIRST, ahead of the names: the tables' words, and 'selects' of the private methods out of them =====
/-- a private method of a class that the tables say can be made, by its rows of tables_1 -/
def lw_okq (q : MethodName × Nat) : Prop := (q.1.cls ≠ "java/lang/invoke/MethodHandle" ∧ q.1.cls ≠ "java/lang/invoke/VarHandle") ∧ Cond.instantiable q.1.cls q.2 ∈ tables_1 ∧ Cond.privateMethod q.1 ∈ tables_1 ∧ Cond.instanceMethod q.1 ∈ tables_1
theorem lw_p0 : lw_okq (⟨"java/lang/Throwable", "fillInStackTrace", "(I)Ljava/lang/Throwable;"⟩, 6) := ⟨⟨by decide +kernel, by decide +kernel⟩, List.mem_of_getElem? (i := 156) (by decide +kernel), List.mem_of_getElem? (i := 154) (by decide +kernel), List.mem_of_getElem? (i := 155) (by decide +kernel)⟩
theorem lw_p1 : lw_okq (⟨"UnionList", "sendNews", "(ILUnionList$Copy;)V"⟩, 7) := ⟨⟨by decide +kernel, by decide +kernel⟩, List.mem_of_getElem? (i := 16) (by decide +kernel), List.mem_of_getElem? (i := 246) (by decide +kernel), List.mem_of_getElem? (i := 247) (by decide +kernel)⟩
theorem lw_p2 : lw_okq (⟨"UnionList", "send", "(IILUnionList$Copy;LUnionList$Request;)I"⟩, 7) := ⟨⟨by decide +kernel, by decide +kernel⟩, List.mem_of_getElem? (i := 16) (by decide +kernel), List.mem_of_getElem? (i := 253) (by decide +kernel), List.mem_of_getElem? (i := 254) (by decide +kernel)⟩
theorem lw_p3 : lw_okq (⟨"UnionList", "copyNumbered", "(I)LUnionList$Copy;"⟩, 7) := ⟨⟨by decide +kernel, by decide +kernel⟩, List.mem_of_getElem? (i := 16) (by decide +kernel), List.mem_of_getElem? (i := 292) (by decide +kernel), List.mem_of_getElem? (i := 293) (by decide +kernel)⟩
theorem lw_p4 : lw_okq (⟨"UnionList", "examine", "(LUnionList$Copy;)I"⟩, 7) := ⟨⟨by decide +kernel, by decide +kernel⟩, List.mem_of_getElem? (i := 16) (by decide +kernel), List.mem_of_getElem? (i := 354) (by decide +kernel), List.mem_of_getElem? (i := 355) (by decide +kernel)⟩
theorem lw_p5 : lw_okq (⟨"UnionList", "askNextHome", "(LUnionList$Request;)V"⟩, 7) := ⟨⟨by decide +kernel, by decide +kernel⟩, List.mem_of_getElem? (i := 16) (by decide +kernel), List.mem_of_getElem? (i := 412) (by decide +kernel), List.mem_of_getElem? (i := 413) (by decide +kernel)⟩
theorem lw_p6 : lw_okq (⟨"UnionList", "nearestListedFree", "(LUnionList$Request;)LUnionList$Copy;"⟩, 7) := ⟨⟨by decide +kernel, by decide +kernel⟩, List.mem_of_getElem? (i := 16) (by decide +kernel), List.mem_of_getElem? (i := 416) (by decide +kernel), List.mem_of_getElem? (i := 417) (by decide +kernel)⟩
theorem lw_p7 : lw_okq (⟨"UnionList", "requestNumbered", "(I)LUnionList$Request;"⟩, 7) := ⟨⟨by decide +kernel, by decide +kernel⟩, List.mem_of_getElem? (i := 16) (by decide +kernel), List.mem_of_getElem? (i := 441) (by decide +kernel), List.mem_of_getElem? (i := 442) (by decide +kernel)⟩
theorem lw_p8 : lw_okq (⟨"UnionList", "arrivalsOfNextDay", "()I"⟩, 7) := ⟨⟨by decide +kernel, by decide +kernel⟩, List.mem_of_getElem? (i := 16) (by decide +kernel), List.mem_of_getElem? (i := 492) (by decide +kernel), List.mem_of_getElem? (i := 493) (by decide +kernel)⟩
theorem lw_p9 : lw_okq (⟨"UnionList", "deliver", "(LUnionList$Sent;)V"⟩, 7) := ⟨⟨by decide +kernel, by decide +kernel⟩, List.mem_of_getElem? (i := 16) (by decide +kernel), List.mem_of_getElem? (i := 504) (by decide +kernel), List.mem_of_getElem? (i := 505) (by decide +kernel)⟩
theorem lw_p10 : lw_okq (⟨"UnionList", "answerQuestion", "(LUnionList$Copy;LUnionList$Request;)V"⟩, 7) := ⟨⟨by decide +kernel, by decide +kernel⟩, List.mem_of_getElem? (i := 16) (by decide +kernel), List.mem_of_getElem? (i := 508) (by decide +kernel), List.mem_of_getElem? (i := 509) (by decide +kernel)⟩
theorem lw_p11 : lw_okq (⟨"UnionList", "beginLoan", "(LUnionList$Copy;LUnionList$Request;)V"⟩, 7) := ⟨⟨by decide +kernel, by decide +kernel⟩, List.mem_of_getElem? (i := 16) (by decide +kernel), List.mem_of_getElem? (i := 512) (by decide +kernel), List.mem_of_getElem? (i := 513) (by decide +kernel)⟩
theorem lw_p12 : lw_okq (⟨"UnionList", "comeHome", "(LUnionList$Copy;LUnionList$Request;)V"⟩, 7) := ⟨⟨by decide +kernel, by decide +kernel⟩, List.mem_of_getElem? (i := 16) (by decide +kernel), List.mem_of_getElem? (i := 521) (by decide +kernel), List.mem_of_getElem? (i := 522) (by decide +kernel)⟩
theorem lw_p13 : lw_okq (⟨"UnionList", "prolong", "(LUnionList$Request;)V"⟩, 7) := ⟨⟨by decide +kernel, by decide +kernel⟩, List.mem_of_getElem? (i := 16) (by decide +kernel), List.mem_of_getElem? (i := 525) (by decide +kernel), List.mem_of_getElem? (i := 526) (by decide +kernel)⟩
theorem lw_p14 : lw_okq (⟨"UnionList", "shorten", "(LUnionList$Request;)V"⟩, 7) := ⟨⟨by decide +kernel, by decide +kernel⟩, List.mem_of_getElem? (i := 16) (by decide +kernel), List.mem_of_getElem? (i := 529) (by decide +kernel), List.mem_of_getElem? (i := 530) (by decide +kernel)⟩
theorem lw_p15 : lw_okq (⟨"UnionListModel", "isHouse", "(I)Z"⟩, 24) := ⟨⟨by decide +kernel, by decide +kernel⟩, List.mem_of_getElem? (i := 557) (by decide +kernel), List.mem_of_getElem? (i := 644) (by decide +kernel), List.mem_of_getElem? (i := 645) (by decide +kernel)⟩
def lw_privs_1 : List (MethodName × Nat) := [(⟨"java/lang/Throwable", "fillInStackTrace", "(I)Ljava/lang/Throwable;"⟩, 6), (⟨"UnionList", "sendNews", "(ILUnionList$Copy;)V"⟩, 7), (⟨"UnionList", "send", "(IILUnionList$Copy;LUnionList$Request;)I"⟩, 7), (⟨"UnionList", "copyNumbered", "(I)LUnionList$Copy;"⟩, 7), (⟨"UnionList", "examine", "(LUnionList$Copy;)I"⟩, 7), (⟨"UnionList", "askNextHome", "(LUnionList$Request;)V"⟩, 7), (⟨"UnionList", "nearestListedFree", "(LUnionList$Request;)LUnionList$Copy;"⟩, 7), (⟨"UnionList", "requestNumbered", "(I)LUnionList$Request;"⟩, 7), (⟨"UnionList", "arrivalsOfNextDay", "()I"⟩, 7), (⟨"UnionList", "deliver", "(LUnionList$Sent;)V"⟩, 7), (⟨"UnionList", "answerQuestion", "(LUnionList$Copy;LUnionList$Request;)V"⟩, 7), (⟨"UnionList", "beginLoan", "(LUnionList$Copy;LUnionList$Request;)V"⟩, 7), (⟨"UnionList", "comeHome", "(LUnionList$Copy;LUnionList$Request;)V"⟩, 7), (⟨"UnionList", "prolong", "(LUnionList$Request;)V"⟩, 7), (⟨"UnionList", "shorten", "(LUnionList$Request;)V"⟩, 7), (⟨"UnionListModel", "isHouse", "(I)Z"⟩, 24)]
theorem lw_r1 : ∀ q ∈ lw_privs_1, lw_okq q := List.forall_mem_cons.mpr ⟨lw_p0, List.forall_mem_cons.mpr ⟨lw_p1, List.forall_mem_cons.mpr ⟨lw_p2, List.forall_mem_cons.mpr ⟨lw_p3, List.forall_mem_cons.mpr ⟨lw_p4, List.forall_mem_cons.mpr ⟨lw_p5, List.forall_mem_cons.mpr ⟨lw_p6, List.forall_mem_cons.mpr ⟨lw_p7, List.forall_mem_cons.mpr ⟨lw_p8, List.forall_mem_cons.mpr ⟨lw_p9, List.forall_mem_cons.mpr ⟨lw_p10, List.forall_mem_cons.mpr ⟨lw_p11, List.forall_mem_cons.mpr ⟨lw_p12, List.forall_mem_cons.mpr ⟨lw_p13, List.forall_mem_cons.mpr ⟨lw_p14, List.forall_mem_cons.mpr ⟨lw_p15, fun _ h => absurd h List.not_mem_nil⟩⟩⟩⟩⟩⟩⟩⟩⟩⟩⟩⟩⟩⟩⟩⟩
theorem lw_p16 : lw_okq (⟨"UnionListModel", "between", "(III)Z"⟩, 24) := ⟨⟨by decide +kernel, by decide +kernel⟩, List.mem_of_getElem? (i := 557) (by decide +kernel), List.mem_of_getElem? (i := 648) (by decide +kernel), List.mem_of_getElem? (i := 649) (by decide +kernel)⟩
theorem lw_p17 : lw_okq (⟨"UnionListModel", "holds", "(I)Z"⟩, 24) := ⟨⟨by decide +kernel, by decide +kernel⟩, List.mem_of_getElem? (i := 557) (by decide +kernel), List.mem_of_getElem? (i := 652) (by decide +kernel), List.mem_of_getElem? (i := 653) (by decide +kernel)⟩
theorem lw_p18 : lw_okq (⟨"UnionListModel", "tell", "(II)V"⟩, 24) := ⟨⟨by decide +kernel, by decide +kernel⟩, List.mem_of_getElem? (i := 557) (by decide +kernel), List.mem_of_getElem? (i := 656) (by decide +kernel), List.mem_of_getElem? (i := 657) (by decide +kernel)⟩
theorem lw_p19 : lw_okq (⟨"UnionListModel", "send", "(III)I"⟩, 24) := ⟨⟨by decide +kernel, by decide +kernel⟩, List.mem_of_getElem? (i := 557) (by decide +kernel), List.mem_of_getElem? (i := 660) (by decide +kernel), List.mem_of_getElem? (i := 661) (by decide +kernel)⟩
theorem lw_p20 : lw_okq (⟨"UnionListModel", "isCopy", "(I)Z"⟩, 24) := ⟨⟨by decide +kernel, by decide +kernel⟩, List.mem_of_getElem? (i := 557) (by decide +kernel), List.mem_of_getElem? (i := 668) (by decide +kernel), List.mem_of_getElem? (i := 669) (by decide +kernel)⟩
theorem lw_p21 : lw_okq (⟨"UnionListModel", "free", "(I)Z"⟩, 24) := ⟨⟨by decide +kernel, by decide +kernel⟩, List.mem_of_getElem? (i := 557) (by decide +kernel), List.mem_of_getElem? (i := 676) (by decide +kernel), List.mem_of_getElem? (i := 677) (by decide +kernel)⟩
theorem lw_p22 : lw_okq (⟨"UnionListModel", "find", "(I)I"⟩, 24) := ⟨⟨by decide +kernel, by decide +kernel⟩, List.mem_of_getElem? (i := 557) (by decide +kernel), List.mem_of_getElem? (i := 692) (by decide +kernel), List.mem_of_getElem? (i := 693) (by decide +kernel)⟩
theorem lw_p23 : lw_okq (⟨"UnionListModel", "owe", "(III)V"⟩, 24) := ⟨⟨by decide +kernel, by decide +kernel⟩, List.mem_of_getElem? (i := 557) (by decide +kernel), List.mem_of_getElem? (i := 696) (by decide +kernel), List.mem_of_getElem? (i := 697) (by decide +kernel)⟩
theorem lw_p24 : lw_okq (⟨"UnionListModel", "ask", "(I)V"⟩, 24) := ⟨⟨by decide +kernel, by decide +kernel⟩, List.mem_of_getElem? (i := 557) (by decide +kernel), List.mem_of_getElem? (i := 708) (by decide +kernel), List.mem_of_getElem? (i := 709) (by decide +kernel)⟩
theorem lw_p25 : lw_okq (⟨"UnionListModel", "way", "(II)I"⟩, 24) := ⟨⟨by decide +kernel, by decide +kernel⟩, List.mem_of_getElem? (i := 557) (by decide +kernel), List.mem_of_getElem? (i := 712) (by decide +kernel), List.mem_of_getElem? (i := 713) (by decide +kernel)⟩
theorem lw_p26 : lw_okq (⟨"UnionListModel", "isRequest", "(I)Z"⟩, 24) := ⟨⟨by decide +kernel, by decide +kernel⟩, List.mem_of_getElem? (i := 557) (by decide +kernel), List.mem_of_getElem? (i := 720) (by decide +kernel), List.mem_of_getElem? (i := 721) (by decide +kernel)⟩
theorem lw_p27 : lw_okq (⟨"UnionListModel", "refuses", "(I)I"⟩, 24) := ⟨⟨by decide +kernel, by decide +kernel⟩, List.mem_of_getElem? (i := 557) (by decide +kernel), List.mem_of_getElem? (i := 732) (by decide +kernel), List.mem_of_getElem? (i := 733) (by decide +kernel)⟩
theorem lw_p28 : lw_okq (⟨"UnionListModel", "length", "(I)I"⟩, 24) := ⟨⟨by decide +kernel, by decide +kernel⟩, List.mem_of_getElem? (i := 557) (by decide +kernel), List.mem_of_getElem? (i := 740) (by decide +kernel), List.mem_of_getElem? (i := 741) (by decide +kernel)⟩
theorem lw_p29 : lw_okq (⟨"UnionListModel", "arriveAll", "()I"⟩, 24) := ⟨⟨by decide +kernel, by decide +kernel⟩, List.mem_of_getElem? (i := 557) (by decide +kernel), List.mem_of_getElem? (i := 756) (by decide +kernel), List.mem_of_getElem? (i := 757) (by decide +kernel)⟩
theorem lw_p30 : lw_okq (⟨"UnionListModel", "arrive", "(II)V"⟩, 24) := ⟨⟨by decide +kernel, by decide +kernel⟩, List.mem_of_getElem? (i := 557) (by decide +kernel), List.mem_of_getElem? (i := 760) (by decide +kernel), List.mem_of_getElem? (i := 761) (by decide +kernel)⟩
theorem lw_p31 : lw_okq (⟨"UnionListModel", "answer", "(I)V"⟩, 24) := ⟨⟨by decide +kernel, by decide +kernel⟩, List.mem_of_getElem? (i := 557) (by decide +kernel), List.mem_of_getElem? (i := 764) (by decide +kernel), List.mem_of_getElem? (i := 765) (by decide +kernel)⟩
def lw_privs_2 : List (MethodName × Nat) := [(⟨"UnionListModel", "between", "(III)Z"⟩, 24), (⟨"UnionListModel", "holds", "(I)Z"⟩, 24), (⟨"UnionListModel", "tell", "(II)V"⟩, 24), (⟨"UnionListModel", "send", "(III)I"⟩, 24), (⟨"UnionListModel", "isCopy", "(I)Z"⟩, 24), (⟨"UnionListModel", "free", "(I)Z"⟩, 24), (⟨"UnionListModel", "find", "(I)I"⟩, 24), (⟨"UnionListModel", "owe", "(III)V"⟩, 24), (⟨"UnionListModel", "ask", "(I)V"⟩, 24), (⟨"UnionListModel", "way", "(II)I"⟩, 24), (⟨"UnionListModel", "isRequest", "(I)Z"⟩, 24), (⟨"UnionListModel", "refuses", "(I)I"⟩, 24), (⟨"UnionListModel", "length", "(I)I"⟩, 24), (⟨"UnionListModel", "arriveAll", "()I"⟩, 24), (⟨"UnionListModel", "arrive", "(II)V"⟩, 24), (⟨"UnionListModel", "answer", "(I)V"⟩, 24)]
theorem lw_r2 : ∀ q ∈ lw_privs_2, lw_okq q := List.forall_mem_cons.mpr ⟨lw_p16, List.forall_mem_cons.mpr ⟨lw_p17, List.forall_mem_cons.mpr ⟨lw_p18, List.forall_mem_cons.mpr ⟨lw_p19, List.forall_mem_cons.mpr ⟨lw_p20, List.forall_mem_cons.mpr ⟨lw_p21, List.forall_mem_cons.mpr ⟨lw_p22, List.forall_mem_cons.mpr ⟨lw_p23, List.forall_mem_cons.mpr ⟨lw_p24, List.forall_mem_cons.mpr ⟨lw_p25, List.forall_mem_cons.mpr ⟨lw_p26, List.forall_mem_cons.mpr ⟨lw_p27, List.forall_mem_cons.mpr ⟨lw_p28, List.forall_mem_cons.mpr ⟨lw_p29, List.forall_mem_cons.mpr ⟨lw_p30, List.forall_mem_cons.mpr ⟨lw_p31, fun _ h => absurd h List.not_mem_nil⟩⟩⟩⟩⟩⟩⟩⟩⟩⟩⟩⟩⟩⟩⟩⟩
theorem lw_p32 : lw_okq (⟨"UnionListModel", "come", "(I)V"⟩, 24) := ⟨⟨by decide +kernel, by decide +kernel⟩, List.mem_of_getElem? (i := 557) (by decide +kernel), List.mem_of_getElem? (i := 768) (by decide +kernel), List.mem_of_getElem? (i := 769) (by decide +kernel)⟩
theorem lw_p33 : lw_okq (⟨"UnionListModel", "homes", "(I)I"⟩, 24) := ⟨⟨by decide +kernel, by decide +kernel⟩, List.mem_of_getElem? (i := 557) (by decide +kernel), List.mem_of_getElem? (i := 772) (by decide +kernel), List.mem_of_getElem? (i := 773) (by decide +kernel)⟩
theorem lw_p34 : lw_okq (⟨"UnionListModel", "plain", "(I)I"⟩, 24) := ⟨⟨by decide +kernel, by decide +kernel⟩, List.mem_of_getElem? (i := 557) (by decide +kernel), List.mem_of_getElem? (i := 780) (by decide +kernel), List.mem_of_getElem? (i := 781) (by decide +kernel)⟩
def lw_privs_3 : List (MethodName × Nat) := [(⟨"UnionListModel", "come", "(I)V"⟩, 24), (⟨"UnionListModel", "homes", "(I)I"⟩, 24), (⟨"UnionListModel", "plain", "(I)I"⟩, 24)]
theorem lw_r3 : ∀ q ∈ lw_privs_3, lw_okq q := List.forall_mem_cons.mpr ⟨lw_p32, List.forall_mem_cons.mpr ⟨lw_p33, List.forall_mem_cons.mpr ⟨lw_p34, fun _ h => absurd h List.not_mem_nil⟩⟩⟩
def lw_privs : List (MethodName × Nat) := lw_privs_1 ++ (lw_privs_2 ++ (lw_privs_3))
def lw_tbl : List Cond := k2_sels lw_privs ++ tables_1
theorem lw_privs_ok : ∀ q ∈ lw_privs, lw_okq q := by
  show ∀ q ∈ lw_privs_1 ++ (lw_privs_2 ++ (lw_privs_3)), lw_okq q
  exact List.forall_mem_append.mpr ⟨lw_r1, List.forall_mem_append.mpr ⟨lw_r2, lw_r3⟩⟩
end
section
/-! ===== BEGIN words of one list among another's, by their places ===== -/
theorem goodIn_r {big : List Cond} (ws : List Cond) (ps : List Nat) (hp : ws = ps.filterMap (fun i => big[i]?)) (h : ws.all goodWord = true) : GoodIn big ws := by
  intro w hw
  have h1 := List.all_eq_true.mp h w hw
  rw [hp] at hw
  obtain ⟨i, -, hi⟩ := List.mem_filterMap.mp hw
  have hm : w ∈ big := by first | exact List.mem_of_getElem? hi | exact List.getElem?_mem hi
  exact ⟨hm, good_of_word h1⟩
theorem goodIn_app {big a b : List Cond} (ha : GoodIn big a) (hb : GoodIn big b) : GoodIn big (a ++ b) := fun w h => (List.mem_append.mp h).elim (ha w) (hb w)
theorem goodIn_ca {big a b : List Cond} {c : Cond} (ha : GoodIn big (c :: a)) (hb : GoodIn big b) : GoodIn big (c :: (a ++ b)) := fun w h => (List.mem_cons.mp h).elim (fun e => ha w (List.mem_cons.mpr (Or.inl e))) (fun h => (List.mem_append.mp h).elim (fun h => ha w (List.mem_cons.mpr (Or.inr h))) (hb w))
theorem goodIn_sub {big ws : List Cond} (hm : ∀ w ∈ ws, w ∈ big) (h : ws.all goodWord = true) : GoodIn big ws := fun w hw => ⟨hm w hw, good_of_word (List.all_eq_true.mp h w hw)⟩
/-! ===== END ===== -/

/-! ===== BEGIN exceptions that leave a method, and their catching by the caller (launches without stack traces) ===== -/
section VXA
/-! The laws vx_back, vx_callV, vx_callS, vx_callSW, vx_throw0, vx_throwS follow proofs of the library, with one case more: JvmDerived/Free/Laws.lean (Back.of_free), Shelf42/LK1.lean (callV, callS), Shelf/KitTraced.lean (throwNew0V, throwNewS). -/
/-- where a method has thrown q: the class by its name, the cell, what was written, the world -/
def vx_T (XC : String → State → State → Prop) (st : State) (q : Addr) (t : State) (mc ms : Nat) (free : Addr → Prop) : Prop :=
  ∃ (E : String) (ce : Cell) (L : List Loc), XC E st t ∧ t.heap[q]? = some ce ∧ ce.vm = .none ∧ st.vm.findClass E = some ce.cls ∧ st.WarmedH t.vm ∧ st.sameButNew ({ t with vm := st.vm } : State) L mc ms ∧ ∀ z ∈ L, free z.base
def vx_Q (Qc : Array Value → State → Outcome → State → Prop) (XC : String → State → State → Prop) (mc ms : Nat) (free : Addr → Prop) : Array Value → State → Outcome → State → Prop := fun a st o t =>
  (Qc a st o t ∧ ∃ L, FrameEnd st o t L mc ms ∧ ∀ q ∈ L, free q.base) ∨ ∃ q, o = .threw q ∧ vx_T XC st q t mc ms free
/-- a callee that returns or throws -/
def vx_Met (l : Launch) (y : MethodName) (ws : List Cond) (rm : Room) (Pc : Array Value → State → Prop) (Qc : Array Value → State → Outcome → State → Prop) (XC : String → State → State → Prop) (mc ms : Nat) (free : Addr → Prop) : Prop :=
  MetFree l y (headSpec ws rm) Pc (fun _ _ _ _ _ => True) (vx_Q Qc XC mc ms free)
def vx_Post (XC : String → State → State → Prop) (mc ms : Nat) (free : Addr → Prop) : Pt → Array Value → Addr → Pt → Prop := fun A a q B =>
  ∃ (g : JFrame) (mk : MethodId) (t : State) (L : List Loc) (E : String) (ce : Cell), B.U.heap = t.heap ∧ B.U.vm = t.vm ∧ XC E (A.U.calling g mk a) t ∧ t.heap[q]? = some ce ∧ ce.vm = .none ∧ A.U.vm.findClass E = some ce.cls ∧ B.locs = A.locs ++ L ∧ (∀ z ∈ L, free z.base) ∧ B.cells = A.cells + mc ∧ B.slots = A.slots + ms
def vx_Back (l : Launch) (R : Room) (p : Program) (e : Env) (below : List Frame) (s : State) (sargs : Array Value) (y : MethodName) (len W9 : Nat)
    (Pre : Pt → Array Value → Prop) (Post : Pt → Array Value → Option Value → Pt → Prop) (PostX : Pt → Array Value → Addr → Pt → Prop) : Prop :=
  ∀ (m : MethodId) (meth : Method) (c : Code) (A : Pt) (g : JFrame) (ig : Instr) (mk : MethodId) (a : Array Value),
    Stand p l e R s m sargs below meth c A.U A.locs A.cells A.slots → g.method = m → g.locals.size = c.maxLocals → decode c.code g.pc = .ok (ig, len) →
    2 * g.monitorRoom + (g.stack.map fun v => v.category).sum ≤ W9 → A.U.methodNamed? y = some mk → Pre A a →
    (∃ (v : Option Value) (B : Pt), Stand p l e R s m sargs below meth c B.U B.locs B.cells B.slots ∧ Post A a v B ∧
      Steps p.tables e below (doInvoke e (A.U.setTop g) [] mk a).1 (B.U.setTop { g with pc := g.pc + len, stack := v.toList ++ g.stack })) ∨
    (∃ (q : Addr) (B : Pt), Stand p l e R s m sargs below meth c B.U B.locs B.cells B.slots ∧ PostX A a q B ∧
      Steps p.tables e below (doInvoke e (A.U.setTop g) [] mk a).1 ((B.U.setTop g).pushFrame (.throwing q)))
section Payer
variable {l : Launch} {R : Room} {p : Program} {e : Env} {below : List Frame} {s : State} {sargs : Array Value} {y : MethodName} {len W9 : Nat}
theorem vx_back {ws : List Cond} {rm : Room} {Pc : Array Value → State → Prop} {Qc : Array Value → State → Outcome → State → Prop} {XC : String → State → State → Prop} {mc ms : Nat} {free : Addr → Prop} {bytes : ByteArray} {maxL : Nat} {ret : Option FieldType}
    (hM : vx_Met l y ws rm Pc Qc XC mc ms free) (hblind : FrameBlind Pc) (hrc : rm.cells = mc) (hrs : rm.slots = ms)
    (hframes : rm.frames + 1 ≤ R.frames) (hlocals : W9 + (maxL + 11) + rm.locals ≤ R.locals)
    (hws : ∀ w ∈ ws, ∀ a' U, s.WarmedH U.vm → w.before a' U = true) (hcode : Cond.code y bytes maxL ret ∈ ws) (hinit : ∀ a' U, s.WarmedH U.vm → (Cond.initialized y.cls).before a' U = true) :
    vx_Back l R p e below s sargs y len W9 (PreOf R mc ms Pc) (PostOf Qc mc ms free) (vx_Post XC mc ms free) := by
  intro m meth c A g ig mk a X hg hsize hdg hW hn hp
  have h1 : (headSpec ws rm).pre.before a A.U = true := atoms_intro fun w hw => hws w hw _ _ X.warmed
  have h2 : (Cond.code y bytes maxL ret).before a A.U = true := hws _ hcode _ _ X.warmed
  have h3 : (Cond.initialized y.cls).before a A.U = true := hinit _ _ X.warmed
  have h4 : A.cells + (headSpec ws rm).room.cells ≤ R.cells := by rw [show (headSpec ws rm).room.cells = mc from hrc]; exact hp.1
  have h5 : A.slots + (headSpec ws rm).room.slots ≤ R.slots := by rw [show (headSpec ws rm).room.slots = ms from hrs]; exact hp.2.1
  have hPc : Pc a (A.U.calling g mk a) := hblind _ _ _ _ hp.2.2
  obtain ⟨U, Ls, c0, s0⟩ := A
  dsimp only [Pt.U, Pt.locs, Pt.cells, Pt.slots] at h1 h2 h3 h4 h5 X hn hPc ⊢
  obtain ⟨methY, cY, hmY, hcY, -, hlY, -, -, -, -⟩ := Cond.code_spec hn h2
  obtain ⟨kY, hkY, -⟩ := className_of_methodNamed hn
  have hinitY : kY.init = .initialized := Cond.initialized_spec (findClass_of_methodNamed hn) hkY h3
  have h : At U g.method c below := by rw [hg]; exact X.here
  have hlocals9 : W9 + (maxL + 11) + (headSpec ws rm).room.locals ≤ R.locals := hlocals
  have happ : (headSpec ws rm).appliesLoose y e.platform (U.calling g mk a) = true :=
    Spec.appliesLoose_calling (g := g) h hdg hn hkY hinitY
      (X.room_calling (g := g) (R' := (headSpec ws rm).room) hsize hmY hcY hframes (by rw [hlY]; omega) h4 h5) h1
  obtain ⟨mid, hmid⟩ := h.above
  have hfr : (U.setTop g).frames = (.java g :: mid) ++ below := by rw [State.frames_setTop' g h.top, hmid]; rfl
  obtain ⟨o, s₂, hsteps, -, hend, hq⟩ := Steps.callFree hM p X.admits X.cas X.clock (acts := []) hfr happ hPc trivial
  have hq' : vx_Q Qc XC mc ms free a (U.calling g mk a) o s₂ := hq
  rw [State.frames_setTop' g h.top] at hend
  obtain ⟨g₀, hg0⟩ := Option.isSome_iff_exists.mp h.top
  obtain ⟨r, hr⟩ := State.topJava?_eq_some.mp hg0
  have hr' : (({ U with heap := s₂.heap, slotsUsed := s₂.slotsUsed } : State).setVm s₂.vm).frames = .java g₀ :: r := hr
  rcases hq' with ⟨hqc, L, hfe, hL⟩ | ⟨q, rfl, E, ce, L, hx, hce, hcv, hcl, hW₂, hsm, hL⟩
  · obtain ⟨⟨v, rfl⟩, hW₂, e2, q2, q3, q4, q5, q6⟩ := id hfe
    have e3 : s₂ = ({ (U.calling g mk a).setFrames s₂.frames with heap := s₂.heap, slotsUsed := s₂.slotsUsed } : State).setVm s₂.vm := by
      have : s₂ = ({ s₂ with vm := (U.calling g mk a).vm } : State).setVm s₂.vm := rfl
      rw [e2] at this
      exact this
    obtain ⟨c₂, i₂, len₂, hc₂, hd₂, hf₂⟩ := hend
    have hW' : U.WarmedH s₂.vm := hW₂
    have hcc : c₂ = c := by
      have h1 : s₂.code? g.method = U.code? g.method := by
        rw [State.code?_eq, State.code?_eq, hW'.alike.method?]
      exact Option.some.inj (hc₂.symm.trans (h1.trans h.code))
    subst hcc
    have hlen : len₂ = len := by rw [hdg] at hd₂; cases hd₂; rfl
    subst hlen
    have hs₂ : s₂ = (({ U with heap := s₂.heap, slotsUsed := s₂.slotsUsed } : State).setVm s₂.vm).setTop { g with pc := g.pc + len₂, stack := v.toList ++ g.stack } := by
      refine e3.trans ?_
      rw [hf₂, State.calling_eq h.top, State.setFrames_setFrames, State.setTop_of_frames _ hr', hr]
      rfl
    have hsame : U.sameButNew ({ U with heap := s₂.heap, slotsUsed := s₂.slotsUsed } : State) L mc ms := by
      refine ⟨?_, q2, q3, q4, q5, q6⟩
      obtain ⟨t, ht, -⟩ := State.frames_cons hr
      show ({ U with heap := s₂.heap, slotsUsed := s₂.slotsUsed } : State) = { U.setFrames U.frames with heap := s₂.heap, slotsUsed := s₂.slotsUsed }
      rw [State.setFrames_self ht]
    subst hg
    refine Or.inl ⟨v, ⟨(({ U with heap := s₂.heap, slotsUsed := s₂.slotsUsed } : State).setVm s₂.vm), Ls ++ L, c0 + mc, s0 + ms⟩,
      ⟨X.admits, X.cas, X.clock, X.frames, X.room, X.hears, X.method, X.code, (X.here.setHeapUsed s₂.heap s₂.slotsUsed).setVm hW'.alike, X.tail, State.WarmedH.trans X.warmed hW', X.limits, X.bytes, X.same.trans (hsame.setVm s.vm)⟩,
      ⟨g, mk, s₂, L, rfl, rfl, hqc, rfl, hL, rfl, rfl⟩, ?_⟩
    show Steps p.tables e below _ ((({ U with heap := s₂.heap, slotsUsed := s₂.slotsUsed } : State).setVm s₂.vm).setTop { g with pc := g.pc + len₂, stack := v.toList ++ g.stack })
    rw [← hs₂]
    exact hsteps
  · obtain ⟨e2, q2, q3, q4, q5, q6⟩ := id hsm
    have e3 : s₂ = ({ (U.calling g mk a).setFrames s₂.frames with heap := s₂.heap, slotsUsed := s₂.slotsUsed } : State).setVm s₂.vm := by
      have : s₂ = ({ s₂ with vm := (U.calling g mk a).vm } : State).setVm s₂.vm := rfl
      rw [e2] at this
      exact this
    have hf₂ : s₂.frames = .throwing q :: .java g :: U.frames.tail := hend
    have hW' : U.WarmedH s₂.vm := hW₂
    have hs₂ : s₂ = ((({ U with heap := s₂.heap, slotsUsed := s₂.slotsUsed } : State).setVm s₂.vm).setTop g).pushFrame (.throwing q) := by
      refine e3.trans ?_
      rw [hf₂, State.calling_eq h.top, State.setFrames_setFrames, State.pushFrame, State.frames_setTop _ hr', State.setTop_of_frames _ hr', State.setFrames_setFrames, hr]
      rfl
    have hsame : U.sameButNew ({ U with heap := s₂.heap, slotsUsed := s₂.slotsUsed } : State) L mc ms := by
      refine ⟨?_, q2, q3, q4, q5, q6⟩
      obtain ⟨t, ht, -⟩ := State.frames_cons hr
      show ({ U with heap := s₂.heap, slotsUsed := s₂.slotsUsed } : State) = { U.setFrames U.frames with heap := s₂.heap, slotsUsed := s₂.slotsUsed }
      rw [State.setFrames_self ht]
    subst hg
    refine Or.inr ⟨q, ⟨(({ U with heap := s₂.heap, slotsUsed := s₂.slotsUsed } : State).setVm s₂.vm), Ls ++ L, c0 + mc, s0 + ms⟩,
      ⟨X.admits, X.cas, X.clock, X.frames, X.room, X.hears, X.method, X.code, (X.here.setHeapUsed s₂.heap s₂.slotsUsed).setVm hW'.alike, X.tail, State.WarmedH.trans X.warmed hW', X.limits, X.bytes, X.same.trans (hsame.setVm s.vm)⟩,
      ⟨g, mk, s₂, L, E, ce, rfl, rfl, hx, hce, hcv, hcl, rfl, hL, rfl, rfl⟩, ?_⟩
    show Steps p.tables e below _ (((({ U with heap := s₂.heap, slotsUsed := s₂.slotsUsed } : State).setVm s₂.vm).setTop g).pushFrame (.throwing q))
    rw [← hs₂]
    exact hsteps
end Payer
section Calls
variable {p : Program} {l : Launch} {e : Env} {R : Room} {s : State} {m : MethodId} {args : Array Value} {below : List Frame} {meth : Method} {c : Code} {T : State} {locs : List Loc} {cells slots : Nat}
theorem vx_callV (X : Stand p l e R s m args below meth c T locs cells slots) (hexec : p.tables.exec = Jvm.exec) {own C : String} {index : Nat} {y : MethodName} {bytes : ByteArray} {maxL : Nat} {ret : Option FieldType}
    (hown : s.vm.findClass own = some m.cls) (hlink : (Cond.methodLink own index y).before args s = true) (hinst : (Cond.instanceMethod y).before args s = true) (hsel : (Cond.selects C y y).before args s = true)
    (hcode : (Cond.code y bytes maxL ret).before args s = true) (hy : y.cls ≠ "java/lang/invoke/MethodHandle" ∧ y.cls ≠ "java/lang/invoke/VarHandle")
    {W9 : Nat} {Pre : Pt → Array Value → Prop} {Post : Pt → Array Value → Option Value → Pt → Prop} {PostX : Pt → Array Value → Addr → Pt → Prop} (hK : vx_Back l R p e below s args y 3 W9 Pre Post PostX)
    {b : Addr} {cellB : Cell} (hcell : T.heap[b]? = some cellB) (hobj : cellB.vm.isStatics = false) (hcls : s.vm.findClass C = some cellB.cls)
    {g : JFrame} (hg : g.method = m) (hsize : g.locals.size = c.maxLocals) {argsL rest : List Value} (hlen : ∀ sig, parseMethodDescriptor y.desc = some sig → argsL.length = sig.parameters.length)
    (hstack : g.stack = argsL.reverse ++ .ref b :: rest) (hW : 2 * g.monitorRoom + (rest.map fun v => v.category).sum ≤ W9) (hdg : decode c.code g.pc = .ok (.invokevirtual index, 3))
    (hpre : ∀ vm₁, s.WarmedH vm₁ → Pre ⟨T.setVm vm₁, locs, cells, slots⟩ (Value.ref b :: argsL).toArray) :
    (∃ (v : Option Value) (vm₁ : Vm) (B : Pt), s.WarmedH vm₁ ∧ Stand p l e R s m args below meth c B.U B.locs B.cells B.slots ∧ Post ⟨T.setVm vm₁, locs, cells, slots⟩ (Value.ref b :: argsL).toArray v B ∧
      ∀ target, Steps p.tables e below (B.U.setTop { g with pc := g.pc + 3, stack := v.toList ++ rest }) target → Steps p.tables e below (T.setTop g) target) ∨
    (∃ (q : Addr) (vm₁ : Vm) (B : Pt), s.WarmedH vm₁ ∧ Stand p l e R s m args below meth c B.U B.locs B.cells B.slots ∧ PostX ⟨T.setVm vm₁, locs, cells, slots⟩ (Value.ref b :: argsL).toArray q B ∧
      Steps p.tables e below (T.setTop g) ((B.U.setTop { g with stack := rest }).pushFrame (.throwing q))) := by
  obtain ⟨mk, methM, hnamed, hmethM, hstM, habM⟩ := Cond.instanceMethod_spec hinst
  obtain ⟨methM', cM, hmethM', -, -, -, -, -, -, hsigM⟩ := Cond.code_spec hnamed hcode
  cases hmethM.symm.trans hmethM'
  obtain ⟨c2, r2, m2, q1, q2, q3, q4, kP, hkP, hkPi⟩ := Cond.selects_spec hsel
  cases hcls.symm.trans q1
  cases (State.methodFound?_of_named hnamed hy).symm.trans q2
  cases hnamed.symm.trans q3
  have hselP : selectMethod e.platform s.vm cellB.cls mk = .method mk := by rw [Launch.admits_selectMethod X.admits]; exact q4
  obtain ⟨vm₁, X₁, hstep₁⟩ := X.invokevirtual hexec hown hlink hnamed hmethM hstM hkP hkPi hy (a := b) (cell := cellB) hcell
    (fun z h => by rw [h] at hobj; cases hobj) hselP hmethM habM hkP hkPi (g := g) hg (argsL := argsL) (rest := rest) (hlen _ hsigM) hstack hdg
  rcases hK m meth c ⟨T.setVm vm₁, locs, cells, slots⟩ { g with stack := rest } (.invokevirtual index) mk (Value.ref b :: argsL).toArray X₁ hg hsize hdg hW (X₁.named hnamed) (hpre vm₁ X₁.warmed) with ⟨v, B, X', hpost, hsteps⟩ | ⟨q, B, X', hpost, hsteps⟩
  · exact Or.inl ⟨v, vm₁, B, X₁.warmed, X', hpost, fun target h => hstep₁ _ fun acts => by rw [doInvoke_state]; exact hsteps.trans h⟩
  · exact Or.inr ⟨q, vm₁, B, X₁.warmed, X', hpost, hstep₁ _ fun acts => by rw [doInvoke_state]; exact hsteps⟩
theorem vx_callS (X : Stand p l e R s m args below meth c T locs cells slots) (hexec : p.tables.exec = Jvm.exec) {own : String} {index : Nat} {y : MethodName} {bytes : ByteArray} {maxL : Nat} {ret : Option FieldType}
    (hown : s.vm.findClass own = some m.cls) (hlink : (Cond.methodLink own index y).before args s = true) (hstat : (Cond.static y).before args s = true) (hinit : (Cond.initialized y.cls).before args s = true)
    (hcode : (Cond.code y bytes maxL ret).before args s = true) (hy : y.cls ≠ "java/lang/invoke/MethodHandle" ∧ y.cls ≠ "java/lang/invoke/VarHandle")
    {W9 : Nat} {Pre : Pt → Array Value → Prop} {Post : Pt → Array Value → Option Value → Pt → Prop} {PostX : Pt → Array Value → Addr → Pt → Prop} (hK : vx_Back l R p e below s args y 3 W9 Pre Post PostX)
    {g : JFrame} (hg : g.method = m) (hsize : g.locals.size = c.maxLocals) {argsL rest : List Value} (hlen : ∀ sig, parseMethodDescriptor y.desc = some sig → argsL.length = sig.parameters.length)
    (hstack : g.stack = argsL.reverse ++ rest) (hW : 2 * g.monitorRoom + (rest.map fun v => v.category).sum ≤ W9) (hdg : decode c.code g.pc = .ok (.invokestatic index, 3))
    (hpre : ∀ vm₁, s.WarmedH vm₁ → Pre ⟨T.setVm vm₁, locs, cells, slots⟩ argsL.toArray) :
    (∃ (v : Option Value) (vm₁ : Vm) (B : Pt), s.WarmedH vm₁ ∧ Stand p l e R s m args below meth c B.U B.locs B.cells B.slots ∧ Post ⟨T.setVm vm₁, locs, cells, slots⟩ argsL.toArray v B ∧
      ∀ target, Steps p.tables e below (B.U.setTop { g with pc := g.pc + 3, stack := v.toList ++ rest }) target → Steps p.tables e below (T.setTop g) target) ∨
    (∃ (q : Addr) (vm₁ : Vm) (B : Pt), s.WarmedH vm₁ ∧ Stand p l e R s m args below meth c B.U B.locs B.cells B.slots ∧ PostX ⟨T.setVm vm₁, locs, cells, slots⟩ argsL.toArray q B ∧
      Steps p.tables e below (T.setTop g) ((B.U.setTop { g with stack := rest }).pushFrame (.throwing q))) := by
  obtain ⟨mk, hnamed⟩ := Cond.code_named hcode
  obtain ⟨methM, cM, hmethM, -, -, -, -, -, -, hsigM⟩ := Cond.code_spec hnamed hcode
  have hstatic : methM.isStatic = true := Cond.static_spec hnamed hmethM hstat
  obtain ⟨kP, hkP, -⟩ := className_of_methodNamed hnamed
  have hinitP : kP.init = .initialized := Cond.initialized_spec (findClass_of_methodNamed hnamed) hkP hinit
  obtain ⟨vm₁, X₁, hstep₁⟩ := X.invokestatic hexec hown hlink hnamed hmethM hstatic hkP hinitP hy (g := g) hg (argsL := argsL) (rest := rest) (hlen _ hsigM) hstack hdg
  rcases hK m meth c ⟨T.setVm vm₁, locs, cells, slots⟩ { g with stack := rest } (.invokestatic index) mk argsL.toArray X₁ hg hsize hdg hW (X₁.named hnamed) (hpre vm₁ X₁.warmed) with ⟨v, B, X', hpost, hsteps⟩ | ⟨q, B, X', hpost, hsteps⟩
  · exact Or.inl ⟨v, vm₁, B, X₁.warmed, X', hpost, fun target h => hstep₁ _ fun acts => by rw [doInvoke_state]; exact hsteps.trans h⟩
  · exact Or.inr ⟨q, vm₁, B, X₁.warmed, X', hpost, hstep₁ _ fun acts => by rw [doInvoke_state]; exact hsteps⟩
end Calls
theorem vx_cls {s : State} {T : State} {vm₁ : Vm} {E : String} {k : ClassId} (hW : s.WarmedH vm₁) (h : (T.setVm vm₁).vm.findClass E = some k) : s.vm.findClass E = some k := by
  have h1 : vm₁.findClass E = some k := h
  rw [hW.alike.findClass] at h1
  exact h1
/-- the method's frame g, with q thrown over it -/
def vx_W (p : Program) (l : Launch) (e : Env) (R : Room) (s : State) (m : MethodId) (args : Array Value) (below : List Frame) (meth : Method) (c : Code) (H : Heap) (locs : List Loc) (cells slots : Nat) (Q : State → Prop) (g : JFrame) (q : Addr) : Prop :=
  ∀ T : State, T.heap = H → Stand p l e R s m args below meth c T locs cells slots → ∃ t, Steps p.tables e below ((T.setTop g).pushFrame (.throwing q)) t ∧ Q t
def vx_Run (p : Program) (l : Launch) (e : Env) (R : Room) (s : State) (m : MethodId) (args : Array Value) (below : List Frame) (meth : Method) (c : Code) (H : Heap) (locs : List Loc) (cells slots mc ms : Nat) (g : JFrame) (rest : List Value) (Qa : State → Outcome → State → Prop) (XC : String → State → State → Prop) (free : Addr → Prop) : Prop :=
  ∀ T : State, T.heap = H → Stand p l e R s m args below meth c T locs cells slots →
    (∃ (v : Option Value) (st₀ t T' : State) (L : List Loc), st₀.heap = H ∧ Stand p l e R s m args below meth c T' (locs ++ L) (cells + mc) (slots + ms) ∧ (∀ q ∈ L, free q.base) ∧ T'.heap = t.heap ∧ T'.vm = t.vm ∧ Qa st₀ (.returned v) t ∧
      Goes p e below T g T' { g with pc := g.pc + 3, stack := v.toList ++ rest }) ∨
    (∃ (q : Addr) (st₀ t T' : State) (L : List Loc) (E : String) (ce : Cell), st₀.heap = H ∧ Stand p l e R s m args below meth c T' (locs ++ L) (cells + mc) (slots + ms) ∧ (∀ z ∈ L, free z.base) ∧ T'.heap = t.heap ∧ T'.vm = t.vm ∧ XC E st₀ t ∧ t.heap[q]? = some ce ∧ ce.vm = .none ∧ s.vm.findClass E = some ce.cls ∧
      Steps p.tables e below (T.setTop g) ((T'.setTop { g with stack := rest }).pushFrame (.throwing q)))
def vx_X {S : Type} (px : S → Prop) (B : String → S → State → Prop) (A : Nat → Prop) : String → State → State → Prop := fun E st t => ∃ u : S, px u ∧ B E u t ∧ va_F A st t
section Runs
variable {p : Program} {l : Launch} {e : Env} {R : Room} {s : State} {m : MethodId} {args : Array Value} {below : List Frame} {meth : Method} {c : Code} {H : Heap} {locs : List Loc} {cells slots : Nat}
variable {y : MethodName} {bytes cc : ByteArray} {maxL nL mc ms n index : Nat} {ret : Option FieldType} {ws : List Cond} {rm : Room} {Pc : Array Value → State → Prop} {Qc : Array Value → State → Outcome → State → Prop} {XC : String → State → State → Prop} {free : Addr → Prop} {Ts : List Cond} {own C : String} {b : Addr} {As rest : List Value} {g : JFrame}
theorem vx_callBack (cb : CallB R s args own index y bytes maxL ret ws rm mc ms n) (hM : vx_Met l y ws rm Pc Qc XC mc ms free) (hbl : FrameBlind Pc) : vx_Back l R p e below s args y 3 8 (PreOf R mc ms Pc) (PostOf Qc mc ms free) (vx_Post XC mc ms free) := by
  obtain ⟨hrc, hrs, hfr, hlo, hws, hcw, -, hini, -⟩ := cb
  exact vx_back (bytes := bytes) (maxL := maxL) (ret := ret) hM hbl hrc hrs hfr hlo hws hcw (fun a' U hW => word_at hW (Or.inl (by first | rfl | simp [Cond.onTables, Cond.keeps, Cond.steady])) hini)
theorem vx_runV (S : CallFix p m c cc nL s args Ts own) (hM : vx_Met l y ws rm Pc Qc XC mc ms free) (cw : CallW R s args own C index y bytes maxL ret ws rm mc ms n) (hp : PreV s H C b Pc As)
    (hg : g.method = m) (hn : As.length = n) (hsize : g.locals.size = nL) (hstack : g.stack = As.reverse ++ .ref b :: rest) (hW : 2 * g.monitorRoom + (rest.map fun v => v.category).sum ≤ 8) (hdg : decode cc g.pc = .ok (.invokevirtual index, 3)) (hf : cells + mc ≤ R.cells ∧ slots + ms ≤ R.slots) :
    vx_Run p l e R s m args below meth c H locs cells slots mc ms g rest (Qc (Value.ref b :: As).toArray) XC free := by
  have hK : vx_Back l R p e below s args y 3 8 (PreOf R mc ms Pc) (PostOf Qc mc ms free) (vx_Post XC mc ms free) := vx_callBack cw.1 hM hp.1
  obtain ⟨⟨-, -, -, -, -, -, hcode, -, hy, hlen, hl⟩, hin, hse⟩ := cw
  obtain ⟨hx, hb, hml, ho, -⟩ := S
  obtain ⟨-, ⟨cellB, hcB, hoB, hclB⟩, hPc⟩ := hp
  intro T hT X
  rcases vx_callV X hx (C := C) (bytes := bytes) (maxL := maxL) (ret := ret) ho hl hin hse hcode hy hK (by rw [hT]; exact hcB) hoB hclB hg (hsize.trans hml.symm) (argsL := As) (rest := rest) (fun sig h => hn.trans (hlen sig h)) hstack hW (by rw [hb]; exact hdg)
    (fun vm₁ hW₁ => ⟨hf.1, hf.2, hPc (T.setVm vm₁) hT hW₁⟩) with ⟨v, vm₁, ⟨U', l2, c2, s2⟩, hW₁, X', ⟨g', mk, t, L, e1, e2, hq, h1, hL, h2, h3⟩, st⟩ | ⟨q, vm₁, ⟨U', l2, c2, s2⟩, hW₁, X', ⟨g', mk, t, L, E, ce, e1, e2, hq, hce, hcv, hcl, h1, hL, h2, h3⟩, st⟩
  · dsimp only [Pt.U, Pt.locs, Pt.cells, Pt.slots] at X' e1 e2 h1 h2 h3 st
    subst h1; subst h2; subst h3
    exact Or.inl ⟨v, (T.setVm vm₁).calling g' mk (Value.ref b :: As).toArray, t, U', L, hT, X', hL, e1, e2, hq, st⟩
  · dsimp only [Pt.U, Pt.locs, Pt.cells, Pt.slots] at X' e1 e2 h1 h2 h3 st hcl
    subst h1; subst h2; subst h3
    exact Or.inr ⟨q, (T.setVm vm₁).calling g' mk (Value.ref b :: As).toArray, t, U', L, E, ce, hT, X', hL, e1, e2, hq, hce, hcv, vx_cls hW₁ hcl, st⟩
theorem vx_runS (S : CallFix p m c cc nL s args Ts own) (hM : vx_Met l y ws rm Pc Qc XC mc ms free) (cw : CallB R s args own index y bytes maxL ret ws rm mc ms n ∧ (Cond.static y).before args s = true) (hp : PreS s H Pc As)
    (hg : g.method = m) (hn : As.length = n) (hsize : g.locals.size = nL) (hstack : g.stack = As.reverse ++ rest) (hW : 2 * g.monitorRoom + (rest.map fun v => v.category).sum ≤ 8) (hdg : decode cc g.pc = .ok (.invokestatic index, 3)) (hf : cells + mc ≤ R.cells ∧ slots + ms ≤ R.slots) :
    vx_Run p l e R s m args below meth c H locs cells slots mc ms g rest (Qc As.toArray) XC free := by
  have hK : vx_Back l R p e below s args y 3 8 (PreOf R mc ms Pc) (PostOf Qc mc ms free) (vx_Post XC mc ms free) := vx_callBack cw.1 hM hp.1
  obtain ⟨⟨-, -, -, -, -, -, hcode, hini, hy, hlen, hl⟩, hstt⟩ := cw
  obtain ⟨hx, hb, hml, ho, -⟩ := S
  intro T hT X
  rcases vx_callS X hx (bytes := bytes) (maxL := maxL) (ret := ret) ho hl hstt hini hcode hy hK hg (hsize.trans hml.symm) (argsL := As) (rest := rest) (fun sig h => hn.trans (hlen sig h)) hstack hW (by rw [hb]; exact hdg)
    (fun vm₁ hW₁ => ⟨hf.1, hf.2, hp.2 (T.setVm vm₁) hT hW₁⟩) with ⟨v, vm₁, ⟨U', l2, c2, s2⟩, hW₁, X', ⟨g', mk, t, L, e1, e2, hq, h1, hL, h2, h3⟩, st⟩ | ⟨q, vm₁, ⟨U', l2, c2, s2⟩, hW₁, X', ⟨g', mk, t, L, E, ce, e1, e2, hq, hce, hcv, hcl, h1, hL, h2, h3⟩, st⟩
  · dsimp only [Pt.U, Pt.locs, Pt.cells, Pt.slots] at X' e1 e2 h1 h2 h3 st
    subst h1; subst h2; subst h3
    exact Or.inl ⟨v, (T.setVm vm₁).calling g' mk As.toArray, t, U', L, hT, X', hL, e1, e2, hq, st⟩
  · dsimp only [Pt.U, Pt.locs, Pt.cells, Pt.slots] at X' e1 e2 h1 h2 h3 st hcl
    subst h1; subst h2; subst h3
    exact Or.inr ⟨q, (T.setVm vm₁).calling g' mk As.toArray, t, U', L, E, ce, hT, X', hL, e1, e2, hq, hce, hcv, vx_cls hW₁ hcl, st⟩
end Runs
section Rows
variable {p : Program} {l : Launch} {e : Env} {R : Room} {s : State} {m : MethodId} {args : Array Value} {below : List Frame} {meth : Method} {c : Code} {H : Heap} {locs : List Loc} {cells slots : Nat} {Q : State → Prop}
variable {mc ms : Nat} {free : Addr → Prop} {A0 A1 : Nat → Prop} {H0 : Heap} {a : Array Value} {pc : Nat} {ls : Array Slot} {st0 rest : List Value}
theorem vx_keep {st₀ t T' : State} {L : List Loc} (h0 : st₀.heap = H) (e1 : T'.heap = t.heap) (hS : va_S A0 H0 H locs) (hA : ∀ q, q < H.size → A1 q → A0 q) (hf : ∀ q, free q → A0 q) (hL : ∀ q ∈ L, free q.base) (hF : va_F A1 st₀ t) :
    H.size ≤ T'.heap.size ∧ (∀ q : Nat, q < H.size → ¬ A1 q → T'.heap[q]? = H[q]?) ∧ va_S A0 H0 T'.heap (locs ++ L) := by
  obtain ⟨hz, hk⟩ := hF
  rw [h0] at hz hk
  exact ⟨by rw [e1]; exact hz, fun q h1 h2 => by rw [e1]; exact hk q h1 h2,
    ⟨Nat.le_trans hS.1 (by rw [e1]; exact hz), fun q h1 h2 => by rw [e1, hk q (Nat.lt_of_lt_of_le h1 hS.1) (fun z => h2 (hA q (Nat.lt_of_lt_of_le h1 hS.1) z))]; exact hS.2.1 q h1 h2, fun q hq => by
      rcases List.mem_append.mp hq with h | h
      · exact hS.2.2 q h
      · exact hf _ (hL q h)⟩⟩
theorem vx_calli {S SX : Type} {post : Int32 → S → Prop} {px : SX → Prop} {B : S → State → Prop} {BX : String → SX → State → Prop} {AX : Nat → Prop} (hr : vx_Run p l e R s m args below meth c H locs cells slots mc ms (F0 m pc ls st0) rest (va_Qi post B A1 a) (vx_X px BX AX) free) (hS : va_S A0 H0 H locs) (hA : ∀ q, q < H.size → A1 q → A0 q) (hf : ∀ q, free q → A0 q) (hAX : ∀ q, q < H.size → AX q → A0 q)
    (kx : ∀ (E : String) (ce : Cell) (q9 : Addr) (u : SX) (t : State) (H1 : Heap) (locs1 : List Loc), t.heap = H1 → s.vm.Alike t.vm → px u → BX E u t → H.size ≤ H1.size → (∀ q : Nat, q < H.size → ¬ AX q → H1[q]? = H[q]?) → va_S A0 H0 H1 locs1 → H1[q9]? = some ce → ce.vm = .none → s.vm.findClass E = some ce.cls → vx_W p l e R s m args below meth c H1 locs1 (cells + mc) (slots + ms) Q (F0 m pc ls rest) q9)
    (kk : ∀ (r : Int32) (u : S) (t : State) (H1 : Heap) (locs1 : List Loc), t.heap = H1 → s.vm.Alike t.vm → post r u → B u t → H.size ≤ H1.size → (∀ q : Nat, q < H.size → ¬ A1 q → H1[q]? = H[q]?) → va_S A0 H0 H1 locs1 → W p l e R s m args below meth c H1 locs1 (cells + mc) (slots + ms) Q (F0 m (pc + 3) ls (.int r :: rest))) : W p l e R s m args below meth c H locs cells slots Q (F0 m pc ls st0) := by
  intro T hT X
  rcases hr T hT X with ⟨v, st₀, t, T', L, h0, X', hL, e1, e2, ⟨⟨r, u, hv, hp, hb⟩, hF⟩, st⟩ | ⟨q, st₀, t, T', L, E, ce, h0, X', hL, e1, e2, ⟨u, hp, hb, hF⟩, hce, hcv, hcl, st⟩
  · cases hv
    obtain ⟨k1, k2, k3⟩ := vx_keep h0 e1 hS hA hf hL hF
    obtain ⟨t2, a1, b1⟩ := kk r u t T'.heap (locs ++ L) e1.symm (by rw [← e2]; exact X'.warmed.alike) hp hb k1 k2 k3 T' rfl X'
    exact ⟨t2, st t2 a1, b1⟩
  · obtain ⟨k1, k2, k3⟩ := vx_keep h0 e1 hS hAX hf hL hF
    obtain ⟨t2, a1, b1⟩ := kx E ce q u t T'.heap (locs ++ L) e1.symm (by rw [← e2]; exact X'.warmed.alike) hp hb k1 k2 k3 (by rw [e1]; exact hce) hcv hcl T' rfl X'
    exact ⟨t2, st.trans a1, b1⟩
theorem vx_calll {S SX : Type} {post : Int64 → S → Prop} {px : SX → Prop} {B : S → State → Prop} {BX : String → SX → State → Prop} {AX : Nat → Prop} (hr : vx_Run p l e R s m args below meth c H locs cells slots mc ms (F0 m pc ls st0) rest (va_Ql post B A1 a) (vx_X px BX AX) free) (hS : va_S A0 H0 H locs) (hA : ∀ q, q < H.size → A1 q → A0 q) (hf : ∀ q, free q → A0 q) (hAX : ∀ q, q < H.size → AX q → A0 q)
    (kx : ∀ (E : String) (ce : Cell) (q9 : Addr) (u : SX) (t : State) (H1 : Heap) (locs1 : List Loc), t.heap = H1 → s.vm.Alike t.vm → px u → BX E u t → H.size ≤ H1.size → (∀ q : Nat, q < H.size → ¬ AX q → H1[q]? = H[q]?) → va_S A0 H0 H1 locs1 → H1[q9]? = some ce → ce.vm = .none → s.vm.findClass E = some ce.cls → vx_W p l e R s m args below meth c H1 locs1 (cells + mc) (slots + ms) Q (F0 m pc ls rest) q9)
    (kk : ∀ (r : Int64) (u : S) (t : State) (H1 : Heap) (locs1 : List Loc), t.heap = H1 → s.vm.Alike t.vm → post r u → B u t → H.size ≤ H1.size → (∀ q : Nat, q < H.size → ¬ A1 q → H1[q]? = H[q]?) → va_S A0 H0 H1 locs1 → W p l e R s m args below meth c H1 locs1 (cells + mc) (slots + ms) Q (F0 m (pc + 3) ls (.long r :: rest))) : W p l e R s m args below meth c H locs cells slots Q (F0 m pc ls st0) := by
  intro T hT X
  rcases hr T hT X with ⟨v, st₀, t, T', L, h0, X', hL, e1, e2, ⟨⟨r, u, hv, hp, hb⟩, hF⟩, st⟩ | ⟨q, st₀, t, T', L, E, ce, h0, X', hL, e1, e2, ⟨u, hp, hb, hF⟩, hce, hcv, hcl, st⟩
  · cases hv
    obtain ⟨k1, k2, k3⟩ := vx_keep h0 e1 hS hA hf hL hF
    obtain ⟨t2, a1, b1⟩ := kk r u t T'.heap (locs ++ L) e1.symm (by rw [← e2]; exact X'.warmed.alike) hp hb k1 k2 k3 T' rfl X'
    exact ⟨t2, st t2 a1, b1⟩
  · obtain ⟨k1, k2, k3⟩ := vx_keep h0 e1 hS hAX hf hL hF
    obtain ⟨t2, a1, b1⟩ := kx E ce q u t T'.heap (locs ++ L) e1.symm (by rw [← e2]; exact X'.warmed.alike) hp hb k1 k2 k3 (by rw [e1]; exact hce) hcv hcl T' rfl X'
    exact ⟨t2, st.trans a1, b1⟩
theorem vx_callf {S SX : Type} {post : UInt32 → S → Prop} {px : SX → Prop} {B : S → State → Prop} {BX : String → SX → State → Prop} {AX : Nat → Prop} (hr : vx_Run p l e R s m args below meth c H locs cells slots mc ms (F0 m pc ls st0) rest (va_Qf post B A1 a) (vx_X px BX AX) free) (hS : va_S A0 H0 H locs) (hA : ∀ q, q < H.size → A1 q → A0 q) (hf : ∀ q, free q → A0 q) (hAX : ∀ q, q < H.size → AX q → A0 q)
    (kx : ∀ (E : String) (ce : Cell) (q9 : Addr) (u : SX) (t : State) (H1 : Heap) (locs1 : List Loc), t.heap = H1 → s.vm.Alike t.vm → px u → BX E u t → H.size ≤ H1.size → (∀ q : Nat, q < H.size → ¬ AX q → H1[q]? = H[q]?) → va_S A0 H0 H1 locs1 → H1[q9]? = some ce → ce.vm = .none → s.vm.findClass E = some ce.cls → vx_W p l e R s m args below meth c H1 locs1 (cells + mc) (slots + ms) Q (F0 m pc ls rest) q9)
    (kk : ∀ (r : UInt32) (u : S) (t : State) (H1 : Heap) (locs1 : List Loc), t.heap = H1 → s.vm.Alike t.vm → post r u → B u t → H.size ≤ H1.size → (∀ q : Nat, q < H.size → ¬ A1 q → H1[q]? = H[q]?) → va_S A0 H0 H1 locs1 → W p l e R s m args below meth c H1 locs1 (cells + mc) (slots + ms) Q (F0 m (pc + 3) ls (.float r :: rest))) : W p l e R s m args below meth c H locs cells slots Q (F0 m pc ls st0) := by
  intro T hT X
  rcases hr T hT X with ⟨v, st₀, t, T', L, h0, X', hL, e1, e2, ⟨⟨r, u, hv, hp, hb⟩, hF⟩, st⟩ | ⟨q, st₀, t, T', L, E, ce, h0, X', hL, e1, e2, ⟨u, hp, hb, hF⟩, hce, hcv, hcl, st⟩
  · cases hv
    obtain ⟨k1, k2, k3⟩ := vx_keep h0 e1 hS hA hf hL hF
    obtain ⟨t2, a1, b1⟩ := kk r u t T'.heap (locs ++ L) e1.symm (by rw [← e2]; exact X'.warmed.alike) hp hb k1 k2 k3 T' rfl X'
    exact ⟨t2, st t2 a1, b1⟩
  · obtain ⟨k1, k2, k3⟩ := vx_keep h0 e1 hS hAX hf hL hF
    obtain ⟨t2, a1, b1⟩ := kx E ce q u t T'.heap (locs ++ L) e1.symm (by rw [← e2]; exact X'.warmed.alike) hp hb k1 k2 k3 (by rw [e1]; exact hce) hcv hcl T' rfl X'
    exact ⟨t2, st.trans a1, b1⟩
theorem vx_calld {S SX : Type} {post : UInt64 → S → Prop} {px : SX → Prop} {B : S → State → Prop} {BX : String → SX → State → Prop} {AX : Nat → Prop} (hr : vx_Run p l e R s m args below meth c H locs cells slots mc ms (F0 m pc ls st0) rest (va_Qd post B A1 a) (vx_X px BX AX) free) (hS : va_S A0 H0 H locs) (hA : ∀ q, q < H.size → A1 q → A0 q) (hf : ∀ q, free q → A0 q) (hAX : ∀ q, q < H.size → AX q → A0 q)
    (kx : ∀ (E : String) (ce : Cell) (q9 : Addr) (u : SX) (t : State) (H1 : Heap) (locs1 : List Loc), t.heap = H1 → s.vm.Alike t.vm → px u → BX E u t → H.size ≤ H1.size → (∀ q : Nat, q < H.size → ¬ AX q → H1[q]? = H[q]?) → va_S A0 H0 H1 locs1 → H1[q9]? = some ce → ce.vm = .none → s.vm.findClass E = some ce.cls → vx_W p l e R s m args below meth c H1 locs1 (cells + mc) (slots + ms) Q (F0 m pc ls rest) q9)
    (kk : ∀ (r : UInt64) (u : S) (t : State) (H1 : Heap) (locs1 : List Loc), t.heap = H1 → s.vm.Alike t.vm → post r u → B u t → H.size ≤ H1.size → (∀ q : Nat, q < H.size → ¬ A1 q → H1[q]? = H[q]?) → va_S A0 H0 H1 locs1 → W p l e R s m args below meth c H1 locs1 (cells + mc) (slots + ms) Q (F0 m (pc + 3) ls (.double r :: rest))) : W p l e R s m args below meth c H locs cells slots Q (F0 m pc ls st0) := by
  intro T hT X
  rcases hr T hT X with ⟨v, st₀, t, T', L, h0, X', hL, e1, e2, ⟨⟨r, u, hv, hp, hb⟩, hF⟩, st⟩ | ⟨q, st₀, t, T', L, E, ce, h0, X', hL, e1, e2, ⟨u, hp, hb, hF⟩, hce, hcv, hcl, st⟩
  · cases hv
    obtain ⟨k1, k2, k3⟩ := vx_keep h0 e1 hS hA hf hL hF
    obtain ⟨t2, a1, b1⟩ := kk r u t T'.heap (locs ++ L) e1.symm (by rw [← e2]; exact X'.warmed.alike) hp hb k1 k2 k3 T' rfl X'
    exact ⟨t2, st t2 a1, b1⟩
  · obtain ⟨k1, k2, k3⟩ := vx_keep h0 e1 hS hAX hf hL hF
    obtain ⟨t2, a1, b1⟩ := kx E ce q u t T'.heap (locs ++ L) e1.symm (by rw [← e2]; exact X'.warmed.alike) hp hb k1 k2 k3 (by rw [e1]; exact hce) hcv hcl T' rfl X'
    exact ⟨t2, st.trans a1, b1⟩
theorem vx_callv {S SX : Type} {post : S → Prop} {px : SX → Prop} {B : S → State → Prop} {BX : String → SX → State → Prop} {AX : Nat → Prop} (hr : vx_Run p l e R s m args below meth c H locs cells slots mc ms (F0 m pc ls st0) rest (va_Qv post B A1 a) (vx_X px BX AX) free) (hS : va_S A0 H0 H locs) (hA : ∀ q, q < H.size → A1 q → A0 q) (hf : ∀ q, free q → A0 q) (hAX : ∀ q, q < H.size → AX q → A0 q)
    (kx : ∀ (E : String) (ce : Cell) (q9 : Addr) (u : SX) (t : State) (H1 : Heap) (locs1 : List Loc), t.heap = H1 → s.vm.Alike t.vm → px u → BX E u t → H.size ≤ H1.size → (∀ q : Nat, q < H.size → ¬ AX q → H1[q]? = H[q]?) → va_S A0 H0 H1 locs1 → H1[q9]? = some ce → ce.vm = .none → s.vm.findClass E = some ce.cls → vx_W p l e R s m args below meth c H1 locs1 (cells + mc) (slots + ms) Q (F0 m pc ls rest) q9)
    (kk : ∀ (u : S) (t : State) (H1 : Heap) (locs1 : List Loc), t.heap = H1 → s.vm.Alike t.vm → post u → B u t → H.size ≤ H1.size → (∀ q : Nat, q < H.size → ¬ A1 q → H1[q]? = H[q]?) → va_S A0 H0 H1 locs1 → W p l e R s m args below meth c H1 locs1 (cells + mc) (slots + ms) Q (F0 m (pc + 3) ls (rest))) : W p l e R s m args below meth c H locs cells slots Q (F0 m pc ls st0) := by
  intro T hT X
  rcases hr T hT X with ⟨v, st₀, t, T', L, h0, X', hL, e1, e2, ⟨⟨u, hv, hp, hb⟩, hF⟩, st⟩ | ⟨q, st₀, t, T', L, E, ce, h0, X', hL, e1, e2, ⟨u, hp, hb, hF⟩, hce, hcv, hcl, st⟩
  · cases hv
    obtain ⟨k1, k2, k3⟩ := vx_keep h0 e1 hS hA hf hL hF
    obtain ⟨t2, a1, b1⟩ := kk u t T'.heap (locs ++ L) e1.symm (by rw [← e2]; exact X'.warmed.alike) hp hb k1 k2 k3 T' rfl X'
    exact ⟨t2, st t2 a1, b1⟩
  · obtain ⟨k1, k2, k3⟩ := vx_keep h0 e1 hS hAX hf hL hF
    obtain ⟨t2, a1, b1⟩ := kx E ce q u t T'.heap (locs ++ L) e1.symm (by rw [← e2]; exact X'.warmed.alike) hp hb k1 k2 k3 (by rw [e1]; exact hce) hcv hcl T' rfl X'
    exact ⟨t2, st.trans a1, b1⟩
/-- caught by the row x of this method's table; the rows ahead don't take it -/
theorem vx_catch {own name : String} {E : String} {ce : Cell} {q : Addr} (hown : s.vm.findClass own = some m.cls) (pre : List ExceptionTableEntry) (x : ExceptionTableEntry) (suf : List ExceptionTableEntry) (hsplit : c.exceptionTable.toList = pre ++ x :: suf)
    (hpass : ∀ z ∈ pre, covers z pc = false ∨ (z.catchType ≠ 0 ∧ ∃ nm : String, (Cond.classLink own z.catchType nm).before args s = true ∧ va_Nc E nm s)) (hx : covers x pc = true) (h0 : x.catchType ≠ 0)
    (hlink : (Cond.classLink own x.catchType name).before args s = true) (hcast : (Cond.castable E name).before args s = true) (hcell : H[q]? = some ce) (hv : ce.vm = .none) (hcl : s.vm.findClass E = some ce.cls)
    (kk : W p l e R s m args below meth c H locs cells slots Q (F0 m x.handlerPc ls [.ref q])) : vx_W p l e R s m args below meth c H locs cells slots Q (F0 m pc ls rest) q := by
  intro T hT X
  have hpl : e.platform.magicAccessors = ({} : Platform).magicAccessors := by rw [X.admits.platform]
  obtain ⟨c3, c4, hc3, hc4, hasg⟩ := Cond.castable_spec hcast
  cases Option.some.inj (hc3.symm.trans hcl)
  obtain ⟨c5, hc5, hcl5⟩ := Cond.classLink_spec hown hlink e.platform hpl
  cases Option.some.inj (hc4.symm.trans hc5)
  obtain ⟨vm', X', st⟩ := X.thenCaughtThrough q (g := F0 m pc ls rest) rfl (Steps.refl _) (by rw [hT]; exact hcell) (by rw [hv]; rfl) (by obtain ⟨k9, h9, -⟩ := Vm.findClass_spec hcl; exact ⟨k9, h9⟩) pre x suf hsplit
    (fun z hz => by
      rcases hpass z hz with h | ⟨hz0, nm, hl1, hn1⟩
      · exact Or.inl h
      · obtain ⟨c6, hc6, hcl6⟩ := Cond.classLink_spec hown hl1 e.platform hpl
        obtain ⟨a8, b8, h1, h2, h3⟩ := hn1
        cases Option.some.inj (h1.symm.trans hcl)
        cases Option.some.inj (h2.symm.trans hc6)
        exact Or.inr ⟨hz0, _, hcl6, h3⟩) hx (Or.inr ⟨h0, c4, hcl5, hasg⟩)
  obtain ⟨t, a1, b1⟩ := kk (T.setVm vm') hT X'
  exact ⟨t, st.trans a1, b1⟩
end Rows
section Ends
variable {p : Program} {l : Launch} {e : Env} {R : Room} {s : State} {m : MethodId} {args : Array Value} {below : List Frame} {meth : Method} {c : Code} {H : Heap} {locs : List Loc} {cells slots : Nat} {Q : State → Prop}
variable {mc ms : Nat} {free : Addr → Prop} {A0 A1 : Nat → Prop} {H0 : Heap} {a : Array Value} {ls : Array Slot} {st0 rest : List Value}
variable {Qc : Array Value → State → Outcome → State → Prop} {XC : String → State → State → Prop}
/-- what a body that may throw owes at its end -/
def vx_MQ (below : List Frame) (Qc : Array Value → State → Outcome → State → Prop) (XC : String → State → State → Prop) (a : Array Value) (s : State) (mc ms : Nat) (free : Addr → Prop) : State → Prop := fun t =>
  ∃ o, t.status = .running ∧ Ended t below o ∧ vx_Q Qc XC mc ms free a s o t
theorem vx_ret {g : JFrame} {mc ms : Nat} (k : W p l e R s m args below meth c H locs cells slots (MQ below Qc args s mc ms free) g) : W p l e R s m args below meth c H locs cells slots (vx_MQ below Qc XC args s mc ms free) g := by
  intro T hT X
  obtain ⟨t, a1, o, b1, b2, b3, b4⟩ := k T hT X
  exact ⟨t, a1, o, b1, b2, Or.inl ⟨b3, b4⟩⟩
/-- not caught here: it goes on to the caller -/
theorem vx_widen {g : JFrame} {q : Addr} {k n : Nat} (h1 : cells ≤ k) (h2 : slots ≤ n) (kk : vx_W p l e R s m args below meth c H locs k n Q g q) : vx_W p l e R s m args below meth c H locs cells slots Q g q := fun T hT X => kk T hT (stand_widen X h1 h2)
theorem vx_out {pc : Nat} {E : String} {ce : Cell} {q : Addr} {mc ms : Nat} (hout : ∀ x ∈ c.exceptionTable.toList, covers x pc = false) (hlocks : meth.locks = false) (hcell : H[q]? = some ce) (hv : ce.vm = .none) (hcl : s.vm.findClass E = some ce.cls)
    (hx : ∀ t : State, t.heap = H → s.vm.Alike t.vm → XC E s t) (hf : ∀ z ∈ locs, free z.base) (hc : cells ≤ mc) (hs : slots ≤ ms) :
    vx_W p l e R s m args below meth c H locs cells slots (vx_MQ below Qc XC args s mc ms free) (F0 m pc ls rest) q := by
  intro T hT X
  obtain ⟨st1, hrun, hend, hW, hsm⟩ := X.leaveThrown q (g := F0 m pc ls rest) rfl rfl rfl hout hlocks
  have hcell9 : (T.setFrames (.throwing q :: below)).heap[q]? = some ce := by
    show T.heap[q]? = some ce
    rw [hT]; exact hcell
  exact ⟨_, st1, .threw q, hrun, hend, Or.inr ⟨q, rfl, E, ce, locs, hx _ hT hW.alike, hcell9, hv, hcl, hW, hsm.mono hc hs, hf⟩⟩
theorem vx_frame {U : State} {k n : Nat} (h : s.sameButNew ({ U with vm := s.vm } : State) locs k n) : s.heap.size ≤ U.heap.size ∧ ∀ q : Nat, q < s.heap.size → (∀ z ∈ locs, z.base ≠ q) → U.heap[q]? = s.heap[q]? := by
  obtain ⟨-, h2, -, -, -, h6⟩ := h
  refine ⟨h2, fun q hq hz => ?_⟩
  obtain ⟨c9, e1, e2, e3, e4⟩ := h6 q _ (Array.getElem?_eq_getElem hq)
  have hs : c9.slots = (s.heap[q]).slots := Array.ext_getElem? fun i => e4 i fun hm => hz _ hm rfl
  have h9 : c9 = s.heap[q] := by
    rw [hs] at e2
    exact e2
  have e5 : U.heap[q]? = some c9 := e1
  rw [e5, h9, Array.getElem?_eq_getElem hq]
/-- the words of a throw but the four that speak of the heap -/
def vx_no (w : Cond) : Bool := decide (w ≠ .isRef (.static Bundle.tN "UNASSIGNED_STACK" Bundle.steD)) && decide (w ≠ .isRef (.static Bundle.tN "SUPPRESSED_SENTINEL" Bundle.listD)) && decide (w ≠ .laysStatic Bundle.tN "UNASSIGNED_STACK" Bundle.steD) && decide (w ≠ .laysStatic Bundle.tN "SUPPRESSED_SENTINEL" Bundle.listD)
def vx_at0 (own : String) (ic : Nat) (X : String) (names : List String) : List Cond := (Bundle.ownAtoms0 own ic X names).filter vx_no
def vx_atS (own : String) (ic : Nat) (X : String) (names : List String) : List Cond := (Bundle.ownAtoms own ic X names).filter vx_no
/-- a word that the tables alone decide, or a good one -/
def vx_ot (w : Cond) : Bool := w.onTables || goodWord w
theorem vx_ot_at {args a' : Array Value} {s U : State} {w : Cond} (hW : s.WarmedH U.vm) (hvm : s.vm = U.vm) (hg : vx_ot w = true) (h : w.before args s = true) : w.before a' U = true := by
  simp only [vx_ot, Bool.or_eq_true] at hg
  rcases hg with hg | hg
  · exact va_tabs hg hvm h
  · exact word_at hW (good_of_word hg) h
/-- a list's words: the good ones out of the method's own list, the others by premises of their own -/
theorem vx_hat {args : Array Value} {s : State} {L B : List Cond} (h1 : ∀ w ∈ L.filter goodWord, w.before args s = true) (h2 : ∀ w ∈ L.filter (fun w => !goodWord w), w ∈ B) (h3 : ∀ w ∈ B, w.before args s = true) : ∀ w ∈ L, w.before args s = true := by
  intro w hw
  by_cases g : goodWord w = true
  · exact h1 w (List.mem_filter.mpr ⟨hw, g⟩)
  · refine h3 w (h2 w (List.mem_filter.mpr ⟨hw, ?_⟩))
    show (!goodWord w) = true
    cases hgw : goodWord w
    · rfl
    · exact absurd hgw g
theorem vx_c {args : Array Value} {s : State} {w : Cond} {B : List Cond} (h : w.before args s = true) (t : ∀ w ∈ B, w.before args s = true) : ∀ w' ∈ w :: B, w'.before args s = true := fun w' h' => (List.mem_cons.mp h').elim (fun e => by rw [e]; exact h) (t w')
theorem vx_n {args : Array Value} {s : State} : ∀ w ∈ ([] : List Cond), w.before args s = true := fun _ h => nomatch h
theorem vx_own {args : Array Value} {s : State} {L : List Cond} (h1 : ∀ w ∈ L.filter vx_no, w.before args s = true)
    (hU : (Cond.isRef (.static Bundle.tN "UNASSIGNED_STACK" Bundle.steD)).before args s = true) (hN : (Cond.isRef (.static Bundle.tN "SUPPRESSED_SENTINEL" Bundle.listD)).before args s = true)
    (lU : (Cond.laysStatic Bundle.tN "UNASSIGNED_STACK" Bundle.steD).before args s = true) (lN : (Cond.laysStatic Bundle.tN "SUPPRESSED_SENTINEL" Bundle.listD).before args s = true) : ∀ w ∈ L, w.before args s = true := by
  intro w hw
  by_cases e1 : w = .isRef (.static Bundle.tN "UNASSIGNED_STACK" Bundle.steD)
  · rw [e1]; exact hU
  · by_cases e2 : w = .isRef (.static Bundle.tN "SUPPRESSED_SENTINEL" Bundle.listD)
    · rw [e2]; exact hN
    · by_cases e3 : w = .laysStatic Bundle.tN "UNASSIGNED_STACK" Bundle.steD
      · rw [e3]; exact lU
      · by_cases e4 : w = .laysStatic Bundle.tN "SUPPRESSED_SENTINEL" Bundle.listD
        · rw [e4]; exact lN
        · exact h1 w (List.mem_filter.mpr ⟨hw, by unfold vx_no; rw [decide_eq_true e1, decide_eq_true e2, decide_eq_true e3, decide_eq_true e4]; rfl⟩)
/-- where a static field lies, its class's statics cell in H -/
def vx_L (C n d : String) (A : Nat → Prop) (U : State) (H : Heap) : Prop := ∃ (c : ClassId) (k : Class) (i : Nat) (f : Field) (a : Nat) (cell : Cell), U.vm.findClass C = some c ∧ U.fieldFound? C n d = some (c, k, i, f) ∧ f.isStatic = true ∧ k.statics = some a ∧ H[a]? = some cell ∧ cell.vm.isStatics = true ∧ cell.cls = c ∧ f.slot < cell.slots.size ∧ k.staticTypes[f.slot]? = some f.type ∧ ¬ A a
theorem vx_L.moved {C n d : String} {A : Nat → Prop} {u U : State} {H : Heap} (hvm : u.vm.Alike U.vm) (h : vx_L C n d A u H) : vx_L C n d A U H := by
  obtain ⟨c, k, i, f, a, cell, h1, h2, h3, h4, h5, h6, h7, h8, h9, h10⟩ := h
  obtain ⟨k', hi', he⟩ := State.fieldFound?_setVm hvm h2
  exact ⟨c, k', i, f, a, cell, by rw [hvm.findClass]; exact h1, hi', h3, by rw [he]; exact h4, h5, h6, h7, h8, by rw [he]; exact h9, h10⟩
theorem vx_L.kept {C n d : String} {A : Nat → Prop} {U : State} {H H1 : Heap} (h : vx_L C n d A U H) (hq : ∀ a : Nat, a < H.size → ¬ A a → H1[a]? = H[a]?) : vx_L C n d A U H1 := by
  obtain ⟨c, k, i, f, a, cell, h1, h2, h3, h4, h5, h6, h7, h8, h9, h10⟩ := h
  exact ⟨c, k, i, f, a, cell, h1, h2, h3, h4, by rw [hq a (Array.getElem?_eq_some_iff.mp h5).1 h10]; exact h5, h6, h7, h8, h9, h10⟩
theorem vx_L.narrow {C n d : String} {A B : Nat → Prop} {U : State} {H : Heap} (h : vx_L C n d A U H) (hAB : ∀ q, B q → A q) : vx_L C n d B U H := by
  obtain ⟨c, k, i, f, a, cell, h1, h2, h3, h4, h5, h6, h7, h8, h9, h10⟩ := h
  exact ⟨c, k, i, f, a, cell, h1, h2, h3, h4, h5, h6, h7, h8, h9, fun z => h10 (hAB _ z)⟩
theorem vx_L.word {C n d : String} {A : Nat → Prop} {s : State} {args : Array Value} (h : vx_L C n d A s s.heap) : (Cond.laysStatic C n d).before args s = true := by
  obtain ⟨c, k, i, f, a, cell, h1, h2, h3, h4, h5, h6, h7, h8, h9, -⟩ := h
  show (Cond.laysStatic C n d).holds args s none s [] = true
  exact Cond.laysStatic_of h1 h2 h3 h4 h5 h6 h7 h8 h9
/-- .. and what it holds: null or some reference -/
def vx_Zq (C n d : String) (A : Nat → Prop) (U : State) (H : Heap) : Prop := va_Zq C n d A U H ∧ vx_L C n d A U H
theorem vx_Zq.moved {C n d : String} {A : Nat → Prop} {u U : State} {H : Heap} (hvm : u.vm.Alike U.vm) (h : vx_Zq C n d A u H) : vx_Zq C n d A U H := ⟨va_Zq.moved hvm h.1, vx_L.moved hvm h.2⟩
theorem vx_Zq.kept {C n d : String} {A : Nat → Prop} {U : State} {H H1 : Heap} (h : vx_Zq C n d A U H) (hq : ∀ a : Nat, a < H.size → ¬ A a → H1[a]? = H[a]?) : vx_Zq C n d A U H1 := ⟨va_Zq.kept h.1 hq, vx_L.kept h.2 hq⟩
theorem vx_Zq.narrow {C n d : String} {A B : Nat → Prop} {U : State} {H : Heap} (h : vx_Zq C n d A U H) (hAB : ∀ q, B q → A q) : vx_Zq C n d B U H := ⟨va_Zq.narrow h.1 hAB, vx_L.narrow h.2 hAB⟩
theorem vx_Zqof {args : Array Value} {s : State} {C n d : String} {A : Nat → Prop} (hl : (Cond.laysStatic C n d).before args s = true) (hini : (Cond.initialized C).before args s = true) (h : (Cond.isRef (.static C n d)).before args s = true) (hA : ∀ a : Nat, a < s.heap.size → ¬ A a) : vx_Zq C n d A s s.heap := by
  refine ⟨va_Zqof hl hini h hA, ?_⟩
  obtain ⟨c, k, i, f, a, cell, h1, h2, h3, h4, h5, h6, h7, h8, h9⟩ := Cond.laysStatic_spec hl
  exact ⟨c, k, i, f, a, cell, h1, h2, h3, h4, h5, h6, h7, h8, h9, hA a (Array.getElem?_eq_some_iff.mp h5).1⟩
theorem vx_isRef {C n d : String} {v : Value} {A : Nat → Prop} {s : State} {args : Array Value} (h : va_Z C n d v A s s.heap) (hv : v.isRef = true) : (Cond.isRef (.static C n d)).before args s = true := by
  obtain ⟨cf, kf, fi, f, a, cell, h1, h2, h3, h4, h5, h6, h7, -⟩ := h
  have he : (Term.static C n d).eval args s none [] s = some v := by
    simp [Term.eval, State.fieldNamed?, h1, h2, h4, h5, h6, h7]
  simp only [Cond.before, Cond.holds, Cond.value, he]
  cases v <;> simp_all [Value.isRef]
theorem vx_isRefq {C n d : String} {A : Nat → Prop} {s : State} {args : Array Value} (h : va_Zq C n d A s s.heap) : (Cond.isRef (.static C n d)).before args s = true := by
  rcases h with h | ⟨t, h⟩
  · exact vx_isRef h rfl
  · exact vx_isRef h rfl
/-- the same frame, seen from here: as if the method were called anew in this heap -/
theorem vx_rebase {T : State} (X : Stand p l e R s m args below meth c T locs cells slots) {R' : Room} (hf : R'.frames ≤ R.frames) (hl : R'.locals ≤ R.locals) (hc : cells + R'.cells ≤ R.cells) (hs : slots + R'.slots ≤ R.slots) :
    Stand p l e R' ((T.setVm s.vm).setFrames (.invoking m args :: below)) m args below meth c T [] 0 0 := by
  have htop : (T.setVm s.vm).topJava?.isSome := X.here.top
  have hF : ((T.setVm s.vm).setFrames (.invoking m args :: below)).frames = .invoking m args :: below := State.frames_setFrames _ (State.cur_lt_of_top htop)
  obtain ⟨g₀, hg0⟩ := Option.isSome_iff_exists.mp htop
  obtain ⟨r, hr⟩ := State.topJava?_eq_some.mp hg0
  have hl9 : e.platform.stackLimits (T.setVm s.vm).me = e.platform.stackLimits s.me := X.limits
  have hb9 : (T.setVm s.vm).me.stackBytes = s.me.stackBytes := X.bytes
  refine ⟨X.admits, X.cas, X.clock, hF, ?_, X.hears, X.method, X.code, X.here, X.tail, X.warmed, ?_, ?_, ?_⟩
  · have h := X.room
    have hU : ((T.setVm s.vm).setFrames (.invoking m args :: below)).localsInUse = s.localsInUse := by
      rw [State.localsInUse_invoking hF (meth := meth) (c := c) X.method X.code, State.localsInUse_invoking X.frames X.method X.code]
    simp only [State.hasRoom, Bool.and_eq_true, decide_eq_true_eq] at h ⊢
    obtain ⟨⟨⟨⟨h1, h2, h3, h4, h5, h6⟩, h7⟩, h8⟩, h9⟩ := h
    rw [X.frames, List.length_cons] at h2 h3
    have q1 := X.heapSize
    have q2 := X.used
    simp only [hF, hU, List.length_cons, State.stackLimits_setFrames, State.stackBytes_setFrames, hl9, hb9]
    refine ⟨⟨⟨⟨by omega, by omega, by omega, by omega, by omega, h6⟩, ?_⟩, ?_⟩, X.book⟩
    · show T.heap.size + R'.cells ≤ e.platform.maxCells
      omega
    · show T.slotsUsed + R'.slots ≤ e.platform.maxSlots
      omega
  · rw [State.stackLimits_setFrames]; rfl
  · rw [State.stackBytes_setFrames]; rfl
  · refine ⟨?_, Nat.le_refl _, Nat.le_refl _, ?_, ?_, fun a c9 h9 => ⟨c9, h9, rfl, rfl, fun _ _ => rfl⟩⟩
    · obtain ⟨t, ht, -⟩ := State.frames_cons hr
      show T.setVm s.vm = { ((T.setVm s.vm).setFrames (.invoking m args :: below)).setFrames (T.setVm s.vm).frames with heap := T.heap, slotsUsed := T.slotsUsed }
      rw [State.setFrames_setFrames, State.setFrames_self ht]
      rfl
    · show T.slotsUsed = T.slotsUsed + ((T.heap.toList.drop T.heap.size).map (·.slots.size)).sum
      rw [List.drop_eq_nil_of_le (Nat.le_of_eq Array.length_toList)]
      rfl
    · show ((T.heap.toList.drop T.heap.size).map (·.slots.size)).sum ≤ 0
      rw [List.drop_eq_nil_of_le (Nat.le_of_eq Array.length_toList)]
      exact Nat.le_refl _
/-- 'throw new E()': new; dup; invokespecial; athrow -/
theorem vx_throw0 {cc : ByteArray} {pc : Nat} (hexec : p.tables.exec = Jvm.exec) (hb : c.code = cc) (hl : l.stackTraces = false) {own cls : String} {names : List String} {ik ic mc ms : Nat} {A : Nat → Prop}
    (hown : s.vm.findClass own = some m.cls) (hcls : Bundle.fit cls = true) (hnames : ∀ n ∈ names, Bundle.fit n = true)
    (hk : (Cond.classLink own ik cls).before args s = true) (hini : (Cond.initialized cls).before args s = true) (hat : ∀ w ∈ vx_at0 own ic cls names, w.before args s = true)
    (hgood : ∀ w ∈ Cond.classLink own ik cls :: Cond.initialized cls :: vx_at0 own ic cls names, vx_ot w = true)
    (hU : vx_Zq Bundle.tN "UNASSIGNED_STACK" Bundle.steD A s s.heap) (hN : vx_Zq Bundle.tN "SUPPRESSED_SENTINEL" Bundle.listD A s s.heap) (hS : va_S A s.heap H locs) (hsize : ls.size = c.maxLocals)
    (d0 : decode cc pc = .ok (.new ik, 3)) (d3 : decode cc (pc + 3) = .ok (.dup, 1)) (d4 : decode cc (pc + 4) = .ok (.invokespecial ic, 3)) (d7 : decode cc (pc + 7) = .ok (.athrow, 1))
    (hout : ∀ x ∈ c.exceptionTable.toList, covers x (pc + 7) = false)
    (hRframes : names.length + 3 < R.frames) (hRlocals : (rest.map fun v => v.category).sum + (13 * (names.length + 1) + 42) ≤ R.locals) (hRcells : cells + 1 ≤ R.cells) (hRslots : slots + 6 ≤ R.slots) (hlocks : meth.locks = false)
    (hx : ∀ t : State, s.vm.Alike t.vm → H.size ≤ t.heap.size → (∀ q : Nat, q < H.size → t.heap[q]? = H[q]?) → XC cls s t)
    (hf : ∀ z ∈ locs, free z.base) (hc : cells + 1 ≤ mc) (hs : slots + 6 ≤ ms) :
    W p l e R s m args below meth c H locs cells slots (vx_MQ below Qc XC args s mc ms free) (F0 m pc ls rest) := by
  intro T hT X
  have htr : e.platform.stackTraces = false := (show e.platform.stackTraces = l.stackTraces by rw [X.admits.platform]).trans hl
  have Y := vx_rebase X (R' := { frames := R.frames, locals := R.locals, cells := 1, slots := 6 }) (Nat.le_refl _) (Nat.le_refl _) hRcells hRslots
  obtain ⟨s', hA⟩ : ∃ z, z = (T.setVm s.vm).setFrames (.invoking m args :: below) := ⟨_, rfl⟩
  rw [← hA] at Y
  have hvm : s'.vm = s.vm := by rw [hA]; rfl
  have hhp : s'.heap = H := by rw [hA]; exact hT
  have hW0 : s.WarmedH s'.vm := by rw [hvm]; exact State.WarmedH.refl s
  have hat' : ∀ w ∈ vx_at0 own ic cls names, w.before args s' = true := fun w hw => vx_ot_at hW0 hvm.symm (hgood w (List.mem_cons_of_mem _ (List.mem_cons_of_mem _ hw))) (hat w hw)
  have hk' : (Cond.classLink own ik cls).before args s' = true := vx_ot_at hW0 hvm.symm (hgood _ List.mem_cons_self) hk
  have hini' : (Cond.initialized cls).before args s' = true := vx_ot_at hW0 hvm.symm (hgood _ (List.mem_cons_of_mem _ List.mem_cons_self)) hini
  have hU' : vx_Zq Bundle.tN "UNASSIGNED_STACK" Bundle.steD A s' s'.heap := by rw [hhp]; exact vx_Zq.moved hW0.alike (hU.kept hS.2.1)
  have hN' : vx_Zq Bundle.tN "SUPPRESSED_SENTINEL" Bundle.listD A s' s'.heap := by rw [hhp]; exact vx_Zq.moved hW0.alike (hN.kept hS.2.1)
  have h : ∀ w ∈ Bundle.ownAtoms0 own ic cls names, w.before args s' = true := vx_own hat' (vx_isRefq hU'.1) (vx_isRefq hN'.1) hU'.2.word hN'.2.word
  have hown' : s'.vm.findClass own = some m.cls := by rw [hvm]; exact hown
  have hins : (Cond.instantiable cls 6).before args s' = true := h _ (by simp [Bundle.ownAtoms0])
  obtain ⟨vm₁, cX, kX, hfX, hkX, -, -, X₁, st1⟩ := Y.newCold hexec (own := own) (C := cls) (index := ik) (n := 6) hown' hk' hins hini'
    (g := F0 m pc ls rest) rfl (by rw [hb]; exact d0) (Nat.le_refl _) (Nat.le_refl _)
  generalize hT1 : (T.setVm vm₁).pushCell { cls := cX, slots := kX.instanceTypes.map defaultValue, vm := .none } = T1 at X₁ st1
  have hcat : (Value.ref T.heap.size).category = 1 := rfl
  have hcellA : T1.heap[T.heap.size]? = some (freshCell cX kX) := by rw [← hT1]; exact State.heap_pushCell_size _ _
  have d3' : decode c.code (pc + 3) = .ok (.dup, 1) := by rw [hb]; exact d3
  obtain ⟨U, hsteps, hrun, hend, hW, hsame, ce, hce, hO⟩ := X₁.ctorThrow0 hexec htr (own := own) (cls := cls) (names := names) (ic := ic) hown' hcls hnames h (fun x hx => nomatch hx) hfX hkX hcellA (by rw [hhp, hT]; exact Nat.le_refl _)
    (g := { method := m, pc := pc + 4, locals := ls, stack := .ref T.heap.size :: .ref T.heap.size :: rest, locked := none }) rfl hsize rfl rfl (rest := rest) rfl
    (by rw [hb]; exact d4) (by rw [hb]; exact d7) hout hRframes (by simp only [List.map_cons, List.sum_cons, hcat]; omega) hlocks
  obtain ⟨f1, f2⟩ := vx_frame hsame
  rw [hhp] at f1 f2
  have hWs : s.WarmedH U.vm := State.WarmedH.trans hW0 hW
  have hcl : s.vm.findClass cls = some ce.cls := by
    have h9 := hO.cls
    rw [hvm] at h9
    exact h9
  have hall : s.sameButNew ({ U with vm := s.vm } : State) locs mc ms := by
    subst hA
    obtain ⟨e1, e2⟩ := hsame
    rw [State.setFrames_setFrames] at e1
    have h2 : (T.setVm s.vm).sameButNew ({ U with vm := s.vm } : State) [] (0 + 1) (0 + 6) := ⟨e1, e2⟩
    have h3 := X.same.trans h2
    rw [List.append_nil] at h3
    exact h3.mono hc hs
  refine ⟨U, ?_, .threw T.heap.size, hrun, hend, Or.inr ⟨T.heap.size, rfl, cls, ce, locs, hx U hWs.alike f1 (fun q hq => f2 q hq (fun z hz => nomatch hz)), hce, hO.vm, hcl, hWs, hall, hf⟩⟩
  refine st1 _ ?_
  show Steps p.tables e below (T1.setTop { method := m, pc := pc + 3, locals := ls, stack := .ref T.heap.size :: rest, locked := none }) _
  jvm_step X₁.here [X₁.here.top, hexec, d3', Value.category]
  exact hsteps
/-- 'throw new E("text")': new; dup; ldc; invokespecial; athrow -/
theorem vx_throwS {cc : ByteArray} {pc : Nat} (hexec : p.tables.exec = Jvm.exec) (hb : c.code = cc) (hl : l.stackTraces = false) {own cls text : String} {names : List String} {ik is ic mc ms sa : Nat} {A : Nat → Prop}
    (hown : s.vm.findClass own = some m.cls) (hcls : Bundle.fit cls = true) (hnames : ∀ n ∈ names, Bundle.fit n = true)
    (hk : (Cond.classLink own ik cls).before args s = true) (hini : (Cond.initialized cls).before args s = true) (hstr : vk_R own is text sa s) (hat : ∀ w ∈ vx_atS own ic cls names, w.before args s = true)
    (hgood : ∀ w ∈ Cond.classLink own ik cls :: Cond.initialized cls :: vx_atS own ic cls names, vx_ot w = true)
    (hU : vx_Zq Bundle.tN "UNASSIGNED_STACK" Bundle.steD A s s.heap) (hN : vx_Zq Bundle.tN "SUPPRESSED_SENTINEL" Bundle.listD A s s.heap) (hS : va_S A s.heap H locs) (hsize : ls.size = c.maxLocals)
    (d0 : decode cc pc = .ok (.new ik, 3)) (d3 : decode cc (pc + 3) = .ok (.dup, 1)) (d4 : decode cc (pc + 4) = .ok (.ldc is, 2)) (d6 : decode cc (pc + 6) = .ok (.invokespecial ic, 3)) (d9 : decode cc (pc + 9) = .ok (.athrow, 1))
    (hout : ∀ x ∈ c.exceptionTable.toList, covers x (pc + 9) = false)
    (hRframes : names.length + 3 < R.frames) (hRlocals : (rest.map fun v => v.category).sum + (13 * (names.length + 1) + 43) ≤ R.locals) (hRcells : cells + 1 ≤ R.cells) (hRslots : slots + 6 ≤ R.slots) (hlocks : meth.locks = false)
    (hx : ∀ t : State, s.vm.Alike t.vm → H.size ≤ t.heap.size → (∀ q : Nat, q < H.size → t.heap[q]? = H[q]?) → XC cls s t)
    (hf : ∀ z ∈ locs, free z.base) (hc : cells + 1 ≤ mc) (hs : slots + 6 ≤ ms) :
    W p l e R s m args below meth c H locs cells slots (vx_MQ below Qc XC args s mc ms free) (F0 m pc ls rest) := by
  intro T hT X
  have htr : e.platform.stackTraces = false := (show e.platform.stackTraces = l.stackTraces by rw [X.admits.platform]).trans hl
  have Y := vx_rebase X (R' := { frames := R.frames, locals := R.locals, cells := 1, slots := 6 }) (Nat.le_refl _) (Nat.le_refl _) hRcells hRslots
  obtain ⟨s', hA⟩ : ∃ z, z = (T.setVm s.vm).setFrames (.invoking m args :: below) := ⟨_, rfl⟩
  rw [← hA] at Y
  have hvm : s'.vm = s.vm := by rw [hA]; rfl
  have hhp : s'.heap = H := by rw [hA]; exact hT
  have hW0 : s.WarmedH s'.vm := by rw [hvm]; exact State.WarmedH.refl s
  have hat' : ∀ w ∈ vx_atS own ic cls names, w.before args s' = true := fun w hw => vx_ot_at hW0 hvm.symm (hgood w (List.mem_cons_of_mem _ (List.mem_cons_of_mem _ hw))) (hat w hw)
  have hk' : (Cond.classLink own ik cls).before args s' = true := vx_ot_at hW0 hvm.symm (hgood _ List.mem_cons_self) hk
  have hini' : (Cond.initialized cls).before args s' = true := vx_ot_at hW0 hvm.symm (hgood _ (List.mem_cons_of_mem _ List.mem_cons_self)) hini
  have hU' : vx_Zq Bundle.tN "UNASSIGNED_STACK" Bundle.steD A s' s'.heap := by rw [hhp]; exact vx_Zq.moved hW0.alike (hU.kept hS.2.1)
  have hN' : vx_Zq Bundle.tN "SUPPRESSED_SENTINEL" Bundle.listD A s' s'.heap := by rw [hhp]; exact vx_Zq.moved hW0.alike (hN.kept hS.2.1)
  have h : ∀ w ∈ Bundle.ownAtoms own ic cls names, w.before args s' = true := vx_own hat' (vx_isRefq hU'.1) (vx_isRefq hN'.1) hU'.2.word hN'.2.word
  have hown' : s'.vm.findClass own = some m.cls := by rw [hvm]; exact hown
  have hins : (Cond.instantiable cls 6).before args s' = true := h _ (by simp [Bundle.ownAtoms])
  obtain ⟨vm₁, cX, kX, hfX, hkX, -, -, X₁, st1⟩ := Y.newCold hexec (own := own) (C := cls) (index := ik) (n := 6) hown' hk' hins hini'
    (g := F0 m pc ls rest) rfl (by rw [hb]; exact d0) (Nat.le_refl _) (Nat.le_refl _)
  generalize hT1 : (T.setVm vm₁).pushCell { cls := cX, slots := kX.instanceTypes.map defaultValue, vm := .none } = T1 at X₁ st1
  have hcat : (Value.ref T.heap.size).category = 1 := rfl
  have hcellA : T1.heap[T.heap.size]? = some (freshCell cX kX) := by rw [← hT1]; exact State.heap_pushCell_size _ _
  have d3' : decode c.code (pc + 3) = .ok (.dup, 1) := by rw [hb]; exact d3
  have d4' : decode c.code (pc + 4) = .ok (.ldc is, 2) := by rw [hb]; exact d4
  have hstr' : vk_R own is text sa s' := vk_R.warm hW0 hstr
  obtain ⟨U, hsteps, hrun, hend, hW, hsame, ce, hce, hO⟩ := X₁.ctorThrowS hexec htr (own := own) (cls := cls) (names := names) (ic := ic) hown' hcls hnames h (fun x hx => nomatch hx) hfX hkX hcellA (by rw [hhp, hT]; exact Nat.le_refl _) (msg := .ref sa) rfl
    (g := { method := m, pc := pc + 6, locals := ls, stack := .ref sa :: .ref T.heap.size :: .ref T.heap.size :: rest, locked := none }) rfl hsize rfl rfl (rest := rest) rfl
    (by rw [hb]; exact d6) (by rw [hb]; exact d9) hout hRframes (by simp only [List.map_cons, List.sum_cons, hcat]; omega) hlocks
  obtain ⟨f1, f2⟩ := vx_frame hsame
  rw [hhp] at f1 f2
  have hWs : s.WarmedH U.vm := State.WarmedH.trans hW0 hW
  have hcl : s.vm.findClass cls = some ce.cls := by
    have h9 := hO.cls
    rw [hvm] at h9
    exact h9
  have hall : s.sameButNew ({ U with vm := s.vm } : State) locs mc ms := by
    subst hA
    obtain ⟨e1, e2⟩ := hsame
    rw [State.setFrames_setFrames] at e1
    have h2 : (T.setVm s.vm).sameButNew ({ U with vm := s.vm } : State) [] (0 + 1) (0 + 6) := ⟨e1, e2⟩
    have h3 := X.same.trans h2
    rw [List.append_nil] at h3
    exact h3.mono hc hs
  refine ⟨U, ?_, .threw T.heap.size, hrun, hend, Or.inr ⟨T.heap.size, rfl, cls, ce, locs, hx U hWs.alike f1 (fun q hq => f2 q hq (fun z hz => nomatch hz)), hce, hO.vm, hcl, hWs, hall, hf⟩⟩
  refine st1 _ ?_
  show Steps p.tables e below (T1.setTop { method := m, pc := pc + 3, locals := ls, stack := .ref T.heap.size :: rest, locked := none }) _
  jvm_step X₁.here [X₁.here.top, hexec, d3', Value.category]
  exact X₁.ldcString hexec (own := own) (text := text) (index := is) (a := sa) hown' hstr'.1 hstr'.2
    (g := { method := m, pc := pc + 4, locals := ls, stack := .ref T.heap.size :: .ref T.heap.size :: rest, locked := none }) rfl d4' _ hsteps
/-- 'throw new E("text")', the text by a wide index -/
theorem vx_throwSW {cc : ByteArray} {pc : Nat} (hexec : p.tables.exec = Jvm.exec) (hb : c.code = cc) (hl : l.stackTraces = false) {own cls text : String} {names : List String} {ik is ic mc ms sa : Nat} {A : Nat → Prop}
    (hown : s.vm.findClass own = some m.cls) (hcls : Bundle.fit cls = true) (hnames : ∀ n ∈ names, Bundle.fit n = true)
    (hk : (Cond.classLink own ik cls).before args s = true) (hini : (Cond.initialized cls).before args s = true) (hstr : vk_R own is text sa s) (hat : ∀ w ∈ vx_atS own ic cls names, w.before args s = true)
    (hgood : ∀ w ∈ Cond.classLink own ik cls :: Cond.initialized cls :: vx_atS own ic cls names, vx_ot w = true)
    (hU : vx_Zq Bundle.tN "UNASSIGNED_STACK" Bundle.steD A s s.heap) (hN : vx_Zq Bundle.tN "SUPPRESSED_SENTINEL" Bundle.listD A s s.heap) (hS : va_S A s.heap H locs) (hsize : ls.size = c.maxLocals)
    (d0 : decode cc pc = .ok (.new ik, 3)) (d3 : decode cc (pc + 3) = .ok (.dup, 1)) (d4 : decode cc (pc + 4) = .ok (.ldc_w is, 3)) (d7 : decode cc (pc + 7) = .ok (.invokespecial ic, 3)) (d10 : decode cc (pc + 10) = .ok (.athrow, 1))
    (hout : ∀ x ∈ c.exceptionTable.toList, covers x (pc + 10) = false)
    (hRframes : names.length + 3 < R.frames) (hRlocals : (rest.map fun v => v.category).sum + (13 * (names.length + 1) + 43) ≤ R.locals) (hRcells : cells + 1 ≤ R.cells) (hRslots : slots + 6 ≤ R.slots) (hlocks : meth.locks = false)
    (hx : ∀ t : State, s.vm.Alike t.vm → H.size ≤ t.heap.size → (∀ q : Nat, q < H.size → t.heap[q]? = H[q]?) → XC cls s t)
    (hf : ∀ z ∈ locs, free z.base) (hc : cells + 1 ≤ mc) (hs : slots + 6 ≤ ms) :
    W p l e R s m args below meth c H locs cells slots (vx_MQ below Qc XC args s mc ms free) (F0 m pc ls rest) := by
  intro T hT X
  have htr : e.platform.stackTraces = false := (show e.platform.stackTraces = l.stackTraces by rw [X.admits.platform]).trans hl
  have Y := vx_rebase X (R' := { frames := R.frames, locals := R.locals, cells := 1, slots := 6 }) (Nat.le_refl _) (Nat.le_refl _) hRcells hRslots
  obtain ⟨s', hA⟩ : ∃ z, z = (T.setVm s.vm).setFrames (.invoking m args :: below) := ⟨_, rfl⟩
  rw [← hA] at Y
  have hvm : s'.vm = s.vm := by rw [hA]; rfl
  have hhp : s'.heap = H := by rw [hA]; exact hT
  have hW0 : s.WarmedH s'.vm := by rw [hvm]; exact State.WarmedH.refl s
  have hat' : ∀ w ∈ vx_atS own ic cls names, w.before args s' = true := fun w hw => vx_ot_at hW0 hvm.symm (hgood w (List.mem_cons_of_mem _ (List.mem_cons_of_mem _ hw))) (hat w hw)
  have hk' : (Cond.classLink own ik cls).before args s' = true := vx_ot_at hW0 hvm.symm (hgood _ List.mem_cons_self) hk
  have hini' : (Cond.initialized cls).before args s' = true := vx_ot_at hW0 hvm.symm (hgood _ (List.mem_cons_of_mem _ List.mem_cons_self)) hini
  have hU' : vx_Zq Bundle.tN "UNASSIGNED_STACK" Bundle.steD A s' s'.heap := by rw [hhp]; exact vx_Zq.moved hW0.alike (hU.kept hS.2.1)
  have hN' : vx_Zq Bundle.tN "SUPPRESSED_SENTINEL" Bundle.listD A s' s'.heap := by rw [hhp]; exact vx_Zq.moved hW0.alike (hN.kept hS.2.1)
  have h : ∀ w ∈ Bundle.ownAtoms own ic cls names, w.before args s' = true := vx_own hat' (vx_isRefq hU'.1) (vx_isRefq hN'.1) hU'.2.word hN'.2.word
  have hown' : s'.vm.findClass own = some m.cls := by rw [hvm]; exact hown
  have hins : (Cond.instantiable cls 6).before args s' = true := h _ (by simp [Bundle.ownAtoms])
  obtain ⟨vm₁, cX, kX, hfX, hkX, -, -, X₁, st1⟩ := Y.newCold hexec (own := own) (C := cls) (index := ik) (n := 6) hown' hk' hins hini'
    (g := F0 m pc ls rest) rfl (by rw [hb]; exact d0) (Nat.le_refl _) (Nat.le_refl _)
  generalize hT1 : (T.setVm vm₁).pushCell { cls := cX, slots := kX.instanceTypes.map defaultValue, vm := .none } = T1 at X₁ st1
  have hcat : (Value.ref T.heap.size).category = 1 := rfl
  have hcellA : T1.heap[T.heap.size]? = some (freshCell cX kX) := by rw [← hT1]; exact State.heap_pushCell_size _ _
  have d3' : decode c.code (pc + 3) = .ok (.dup, 1) := by rw [hb]; exact d3
  have d4' : decode c.code (pc + 4) = .ok (.ldc_w is, 3) := by rw [hb]; exact d4
  have hstr' : vk_R own is text sa s' := vk_R.warm hW0 hstr
  obtain ⟨U, hsteps, hrun, hend, hW, hsame, ce, hce, hO⟩ := X₁.ctorThrowS hexec htr (own := own) (cls := cls) (names := names) (ic := ic) hown' hcls hnames h (fun x hx => nomatch hx) hfX hkX hcellA (by rw [hhp, hT]; exact Nat.le_refl _) (msg := .ref sa) rfl
    (g := { method := m, pc := pc + 7, locals := ls, stack := .ref sa :: .ref T.heap.size :: .ref T.heap.size :: rest, locked := none }) rfl hsize rfl rfl (rest := rest) rfl
    (by rw [hb]; exact d7) (by rw [hb]; exact d10) hout hRframes (by simp only [List.map_cons, List.sum_cons, hcat]; omega) hlocks
  obtain ⟨f1, f2⟩ := vx_frame hsame
  rw [hhp] at f1 f2
  have hWs : s.WarmedH U.vm := State.WarmedH.trans hW0 hW
  have hcl : s.vm.findClass cls = some ce.cls := by
    have h9 := hO.cls
    rw [hvm] at h9
    exact h9
  have hall : s.sameButNew ({ U with vm := s.vm } : State) locs mc ms := by
    subst hA
    obtain ⟨e1, e2⟩ := hsame
    rw [State.setFrames_setFrames] at e1
    have h2 : (T.setVm s.vm).sameButNew ({ U with vm := s.vm } : State) [] (0 + 1) (0 + 6) := ⟨e1, e2⟩
    have h3 := X.same.trans h2
    rw [List.append_nil] at h3
    exact h3.mono hc hs
  refine ⟨U, ?_, .threw T.heap.size, hrun, hend, Or.inr ⟨T.heap.size, rfl, cls, ce, locs, hx U hWs.alike f1 (fun q hq => f2 q hq (fun z hz => nomatch hz)), hce, hO.vm, hcl, hWs, hall, hf⟩⟩
  refine st1 _ ?_
  show Steps p.tables e below (T1.setTop { method := m, pc := pc + 3, locals := ls, stack := .ref T.heap.size :: rest, locked := none }) _
  jvm_step X₁.here [X₁.here.top, hexec, d3', Value.category]
  exact X₁.ldcStringW hexec (own := own) (text := text) (index := is) (a := sa) hown' hstr'.1 hstr'.2
    (g := { method := m, pc := pc + 4, locals := ls, stack := .ref T.heap.size :: .ref T.heap.size :: rest, locked := none }) rfl d4' _ hsteps
end Ends
section Bodies
variable {l : Launch}
theorem vx_ofW {y : MethodName} {ws ws' : List Cond} {rm : Room} {Pc : Array Value → State → Prop} {Qc : Array Value → State → Outcome → State → Prop} {XC : String → State → State → Prop} {mc ms : Nat} {free : Addr → Prop} {cc : ByteArray} {maxL : Nat} {ret : Option FieldType}
    (hy : plainName y.cls = true) (hw : ws = Cond.code y cc maxL ret :: ws')
    (body : ∀ p e s m args below meth c s₁, BodyLoose p l y (headSpec ws rm) cc maxL ret e s m args below meth c s₁ → c.maxLocals = maxL → (∀ x ∈ c.exceptionTable.toList, False) → Pc args s →
      W p l e (headSpec ws rm).room s m args below meth c s.heap [] 0 0 (vx_MQ below Qc XC args s mc ms free) (entryFrame m args maxL)) : vx_Met l y ws rm Pc Qc XC mc ms free := by
  refine MetFree.of_bodyS (code := cc) (maxLocals := maxL) (ret := ret) hy ?_ ?_
  · intro args s m h hn
    obtain ⟨meth, c, h1, h2, h3, h4, h5, h6, -, -⟩ := Cond.code_spec hn (atoms_spec (ws := ws) h _ (by rw [hw]; exact List.mem_cons_self))
    exact ⟨meth, c, h1, h2, h3, h4, h5, h6⟩
  · intro p e s m args below meth c s₁ B hml hP _
    have hh0 : s₁.heap = s.heap := by rw [B.state]; rfl
    have ht : ∀ x ∈ c.exceptionTable.toList, False := by
      obtain ⟨meth9, c9, h1, h2, -, -, -, -, h7, -⟩ := Cond.code_spec B.named (atoms_spec (ws := ws) B.pre _ (by rw [hw]; exact List.mem_cons_self))
      cases Option.some.inj (h1.symm.trans B.method)
      cases Option.some.inj (h2.symm.trans (Stand.of_body B).code)
      intro x hx
      rw [Array.isEmpty_iff.mp h7] at hx
      cases hx
    obtain ⟨t, a1, o, b1, b2, b3⟩ := body p e s m args below meth c s₁ B hml ht hP s₁ hh0 (Stand.of_body B)
    exact ⟨t, o, a1, b1, b2, b3⟩
/-- the table of a body with handlers -/
theorem vx_table {p : Program} {x y : MethodName} {S : Spec} {cc bytes : ByteArray} {maxL maxL' : Nat} {ret ret' : Option FieldType} {e : Env} {s s₁ : State} {m : MethodId} {args : Array Value} {below : List Frame} {meth : Method} {c : Code} {hh : List (Nat × Nat × Nat × Nat)}
    (B : BodyLoose p l y S cc maxL ret e s m args below meth c s₁) (h : (Cond.codeWith y bytes maxL' ret' hh).before args s = true) : c.exceptionTable.toList = tableOf hh := by
  obtain ⟨m9, meth9, c9, hn9, h1, h2, -, -, h6, -⟩ := Cond.codeWith_spec h
  cases Option.some.inj (hn9.symm.trans B.named)
  cases Option.some.inj (h1.symm.trans B.method)
  cases Option.some.inj (h2.symm.trans (Stand.of_body B).code)
  rw [← h6, table_eq]
end Bodies
end VXA
/-! ===== END ===== -/
/-! ===== BEGIN a static call of a method with an exception table ===== -/
section VXS
variable {p : Program} {l : Launch} {e : Env} {R : Room} {s : State} {m : MethodId} {args : Array Value} {below : List Frame} {meth : Method} {c : Code} {T : State} {H : Heap} {locs : List Loc} {cells slots : Nat}
abbrev vx_CSW (R : Room) (s : State) (args : Array Value) (own : String) (index : Nat) (y : MethodName) (bytes : ByteArray) (maxL : Nat) (ret : Option FieldType) (hh : List (Nat × Nat × Nat × Nat)) (ws : List Cond) (rm : Room) (mc ms n : Nat) : Prop :=
  (rm.cells = mc ∧ rm.slots = ms ∧ rm.frames + 1 ≤ R.frames ∧ 8 + (maxL + 11) + rm.locals ≤ R.locals ∧ (∀ w ∈ ws, ∀ (a' : Array Value) (U : State), s.WarmedH U.vm → w.before a' U = true) ∧ Cond.codeWith y bytes maxL ret hh ∈ ws) ∧
  (Cond.codeWith y bytes maxL ret hh).before args s = true ∧ (Cond.initialized y.cls).before args s = true ∧ (y.cls ≠ "java/lang/invoke/MethodHandle" ∧ y.cls ≠ "java/lang/invoke/VarHandle") ∧
  (∀ sig, parseMethodDescriptor y.desc = some sig → n = sig.parameters.length) ∧ (Cond.methodLink own index y).before args s = true ∧ (Cond.static y).before args s = true
theorem vx_cwSW {own : String} {index maxL mc ms : Nat} {y : MethodName} {bytes : ByteArray} {ret : Option FieldType} {hh : List (Nat × Nat × Nat × Nat)} {Ts ws ws' : List Cond} {rm : Room} (n : Nat) (ht : ∀ w ∈ Ts, w.before args s = true) (hT : GoodIn Ts (va_wsS own index y ws)) (hw : ws = Cond.codeWith y bytes maxL ret hh :: ws') (hrc : rm.cells = mc) (hrs : rm.slots = ms)
    (hd : y.cls ≠ "java/lang/invoke/MethodHandle" ∧ y.cls ≠ "java/lang/invoke/VarHandle" ∧ (parseMethodDescriptor y.desc).map (fun d => d.parameters.length) = some n) (hR : rm.frames + 1 ≤ R.frames ∧ 8 + (maxL + 11) + rm.locals ≤ R.locals) :
    vx_CSW R s args own index y bytes maxL ret hh ws rm mc ms n := by
  have ok : ∀ w ∈ va_wsS own index y ws, w.before args s = true := fun w h => ht w (hT w h).1
  have hG : GoodIn Ts ws := fun w h => hT w (by unfold va_wsS; exact List.mem_append_right _ h)
  have hc : Cond.codeWith y bytes maxL ret hh ∈ ws := by rw [hw]; exact List.mem_cons_self
  refine ⟨⟨hrc, hrs, hR.1, hR.2, pay_in ht hG, hc⟩, ht _ (hG _ hc).1, ok _ (by simp [va_wsS]), ⟨hd.1, hd.2.1⟩, fun sig h => ?_, ok _ (by simp [va_wsS]), ok _ (by simp [va_wsS])⟩
  have h2 := hd.2.2
  rw [h] at h2
  exact (Option.some.inj h2).symm
theorem vx_callSW (X : Stand p l e R s m args below meth c T locs cells slots) (hexec : p.tables.exec = Jvm.exec) {own : String} {index : Nat} {y : MethodName} {bytes : ByteArray} {maxL : Nat} {ret : Option FieldType} {hh : List (Nat × Nat × Nat × Nat)}
    (hown : s.vm.findClass own = some m.cls) (hlink : (Cond.methodLink own index y).before args s = true) (hstat : (Cond.static y).before args s = true) (hinit : (Cond.initialized y.cls).before args s = true)
    (hcode : (Cond.codeWith y bytes maxL ret hh).before args s = true) (hy : y.cls ≠ "java/lang/invoke/MethodHandle" ∧ y.cls ≠ "java/lang/invoke/VarHandle")
    {W9 : Nat} {Pre : Pt → Array Value → Prop} {Post : Pt → Array Value → Option Value → Pt → Prop} (hK : Back l R p e below s args y 3 W9 Pre Post)
    {g : JFrame} (hg : g.method = m) (hsize : g.locals.size = c.maxLocals) {argsL rest : List Value} (hlen : ∀ sig, parseMethodDescriptor y.desc = some sig → argsL.length = sig.parameters.length)
    (hstack : g.stack = argsL.reverse ++ rest) (hW : 2 * g.monitorRoom + (rest.map fun v => v.category).sum ≤ W9) (hdg : decode c.code g.pc = .ok (.invokestatic index, 3))
    (hpre : ∀ vm₁, s.WarmedH vm₁ → Pre ⟨T.setVm vm₁, locs, cells, slots⟩ argsL.toArray) :
    ∃ (v : Option Value) (vm₁ : Vm) (B : Pt), s.WarmedH vm₁ ∧ Stand p l e R s m args below meth c B.U B.locs B.cells B.slots ∧ Post ⟨T.setVm vm₁, locs, cells, slots⟩ argsL.toArray v B ∧
      ∀ target, Steps p.tables e below (B.U.setTop { g with pc := g.pc + 3, stack := v.toList ++ rest }) target → Steps p.tables e below (T.setTop g) target := by
  obtain ⟨mk, methM, cM, hnamed, hmethM, -, -, -, -, -, -, hsigM⟩ := Cond.codeWith_spec hcode
  have hstatic : methM.isStatic = true := Cond.static_spec hnamed hmethM hstat
  obtain ⟨kP, hkP, -⟩ := className_of_methodNamed hnamed
  have hinitP : kP.init = .initialized := Cond.initialized_spec (findClass_of_methodNamed hnamed) hkP hinit
  obtain ⟨vm₁, X₁, hstep₁⟩ := X.invokestatic hexec hown hlink hnamed hmethM hstatic hkP hinitP hy (g := g) hg (argsL := argsL) (rest := rest) (hlen _ hsigM) hstack hdg
  obtain ⟨v, B, X', hpost, hsteps⟩ := hK m meth c ⟨T.setVm vm₁, locs, cells, slots⟩ { g with stack := rest } (.invokestatic index) mk argsL.toArray X₁ hg hsize hdg hW (X₁.named hnamed) (hpre vm₁ X₁.warmed)
  exact ⟨v, vm₁, B, X₁.warmed, X', hpost, fun target h => hstep₁ _ fun acts => by rw [doInvoke_state]; exact hsteps.trans h⟩
theorem vx_runSW {y : MethodName} {bytes cc : ByteArray} {maxL nL mc ms n index : Nat} {ret : Option FieldType} {hh : List (Nat × Nat × Nat × Nat)} {ws : List Cond} {rm : Room} {Pc : Array Value → State → Prop} {Qc : Array Value → State → Outcome → State → Prop} {free : Addr → Prop} {Ts : List Cond} {own : String} {As rest : List Value} {g : JFrame}
    (S : CallFix p m c cc nL s args Ts own) (hM : Met l y ws rm Pc Qc mc ms free) (cw : vx_CSW R s args own index y bytes maxL ret hh ws rm mc ms n) (hp : PreS s H Pc As)
    (hg : g.method = m) (hn : As.length = n) (hsize : g.locals.size = nL) (hstack : g.stack = As.reverse ++ rest) (hW : 2 * g.monitorRoom + (rest.map fun v => v.category).sum ≤ 8) (hdg : decode cc g.pc = .ok (.invokestatic index, 3)) (hf : cells + mc ≤ R.cells ∧ slots + ms ≤ R.slots) :
    va_Run p l e R s m args below meth c H locs cells slots mc ms g rest (Qc As.toArray) (free) := by
  obtain ⟨⟨hrc, hrs, hfr, hlo, hws, hcw⟩, hcode, hini, hy, hlen, hl, hstt⟩ := cw
  have hK : Back l R p e below s args y 3 8 (PreOf R mc ms Pc) (PostOf Qc mc ms free) := va_backW (hh := hh) (bytes := bytes) (maxL := maxL) (ret := ret) hM hp.1 hrc hrs hfr hlo hws hcw (fun a' U hW => word_at hW (Or.inl (by first | rfl | simp [Cond.onTables, Cond.keeps, Cond.steady])) hini)
  obtain ⟨hx, hb, hml, ho, -⟩ := S
  intro T hT X
  obtain ⟨v, vm₁, ⟨U', l2, c2, s2⟩, hW₁, X', ⟨g', mk, t, L, e1, e2, hq, h1, hL, h2, h3⟩, st⟩ := vx_callSW X hx (hh := hh) (bytes := bytes) (maxL := maxL) (ret := ret) ho hl hstt hini hcode hy hK hg (hsize.trans hml.symm) (argsL := As) (rest := rest) (fun sig h => hn.trans (hlen sig h)) hstack hW (by rw [hb]; exact hdg)
    (fun vm₁ hW₁ => ⟨hf.1, hf.2, hp.2 (T.setVm vm₁) hT hW₁⟩)
  dsimp only [Pt.U, Pt.locs, Pt.cells, Pt.slots] at X' e1 e2 h1 h2 h3 st
  subst h1; subst h2; subst h3
  exact ⟨v, (T.setVm vm₁).calling g' mk As.toArray, t, U', L, hT, X', hL, e1, e2, hq, st⟩
/-- not caught here, past rows that name other classes: it goes on to the caller -/
theorem vx_outP {p : Program} {l : Launch} {e : Env} {R : Room} {s : State} {m : MethodId} {args : Array Value} {below : List Frame} {meth : Method} {c : Code} {H : Heap} {locs : List Loc} {cells slots : Nat} {free : Addr → Prop} {ls : Array Slot} {rest : List Value} {Qc : Array Value → State → Outcome → State → Prop} {XC : String → State → State → Prop}
    {pc : Nat} {own E : String} {ce : Cell} {q : Addr} {mc ms : Nat} (hown : s.vm.findClass own = some m.cls) (hlocks : meth.locks = false)
    (hpass : ∀ z ∈ c.exceptionTable.toList, covers z pc = false ∨ (z.catchType ≠ 0 ∧ ∃ nm : String, (Cond.classLink own z.catchType nm).before args s = true ∧ va_Nc E nm s)) (hcell : H[q]? = some ce) (hv : ce.vm = .none) (hcl : s.vm.findClass E = some ce.cls)
    (hx : ∀ t : State, t.heap = H → s.vm.Alike t.vm → XC E s t) (hf : ∀ z ∈ locs, free z.base) (hc : cells ≤ mc) (hs : slots ≤ ms) :
    vx_W p l e R s m args below meth c H locs cells slots (vx_MQ below Qc XC args s mc ms free) (F0 m pc ls rest) q := by
  intro T hT X
  have hpl : e.platform.magicAccessors = ({} : Platform).magicAccessors := by rw [X.admits.platform]
  obtain ⟨vm', hW', X', st⟩ := X.outThrough hlocks q (g := F0 m pc ls rest) rfl rfl rfl (cell := ce) (by rw [hT]; exact hcell) (by rw [hv]; rfl)
    (by obtain ⟨k9, h9, -⟩ := Vm.findClass_spec hcl; exact ⟨k9, h9⟩) (fun z hz => by
      rcases hpass z hz with h | ⟨hz0, nm, hl1, hn1⟩
      · exact Or.inl h
      · obtain ⟨c6, hc6, hcl6⟩ := Cond.classLink_spec hown hl1 e.platform hpl
        obtain ⟨a8, b8, h1, h2, h3⟩ := hn1
        cases Option.some.inj (h1.symm.trans hcl)
        cases Option.some.inj (h2.symm.trans hc6)
        exact Or.inr ⟨hz0, _, hcl6, h3⟩)
  obtain ⟨g₀, hfr⟩ := X'.frames_eq
  have hcell9 : ((T.setVm vm').setFrames (.throwing q :: below)).heap[q]? = some ce := by
    show T.heap[q]? = some ce
    rw [hT]; exact hcell
  have hend : Ended ((T.setVm vm').setFrames (.throwing q :: below)) below (.threw q) := State.frames_setFrames _ (State.cur_lt_of_frames hfr)
  refine ⟨(T.setVm vm').setFrames (.throwing q :: below), ?_, .threw q, X'.here.running, hend, Or.inr ⟨q, rfl, E, ce, locs, hx _ hT (X'.ends _).1.alike, hcell9, hv, hcl, (X'.ends _).1, (X'.ends _).2.mono hc hs, hf⟩⟩
  rw [X.pushThrowing_eq]
  exact st
/-- a thing of a world lies in the heap -/
theorem vx_lt {D : va_G} {cl : List vw_C} {ws : va_W} {H1 : Heap} (h : va_P D cl ws H1) {k : Nat} {q : Nat × va_E} (hk : ws[k]? = some q) : q.1 < H1.size := (h k q hk).lt
end VXS
/-! ===== END ===== -/
/-! ===== BEGIN methods with a table of their own: called by a name, returning or throwing ===== -/
section VXH
/-! vx_backW, vx_callVX, vx_callSX, vx_callVW, vx_runVW, vx_runVX, vx_runSX, vx_ofWH follow the same proofs as their sisters above (Free/Laws.lean, Shelf42/LK1.lean); vx_outP calls Shelf42/NT130.lean (outThrough). -/
section
variable {l : Launch} {R : Room} {p : Program} {e : Env} {below : List Frame} {s : State} {sargs : Array Value} {y : MethodName} {len W9 : Nat}
theorem vx_backW {ws : List Cond} {rm : Room} {Pc : Array Value → State → Prop} {Qc : Array Value → State → Outcome → State → Prop} {XC : String → State → State → Prop} {mc ms : Nat} {free : Addr → Prop} {bytes : ByteArray} {maxL : Nat} {ret : Option FieldType} {hh : List (Nat × Nat × Nat × Nat)}
    (hM : vx_Met l y ws rm Pc Qc XC mc ms free) (hblind : FrameBlind Pc) (hrc : rm.cells = mc) (hrs : rm.slots = ms)
    (hframes : rm.frames + 1 ≤ R.frames) (hlocals : W9 + (maxL + 11) + rm.locals ≤ R.locals)
    (hws : ∀ w ∈ ws, ∀ a' U, s.WarmedH U.vm → w.before a' U = true) (hcode : Cond.codeWith y bytes maxL ret hh ∈ ws) (hinit : ∀ a' U, s.WarmedH U.vm → (Cond.initialized y.cls).before a' U = true) :
    vx_Back l R p e below s sargs y len W9 (PreOf R mc ms Pc) (PostOf Qc mc ms free) (vx_Post XC mc ms free) := by
  intro m meth c A g ig mk a X hg hsize hdg hW hn hp
  have h1 : (headSpec ws rm).pre.before a A.U = true := atoms_intro fun w hw => hws w hw _ _ X.warmed
  have h2 : (Cond.codeWith y bytes maxL ret hh).before a A.U = true := hws _ hcode _ _ X.warmed
  have h3 : (Cond.initialized y.cls).before a A.U = true := hinit _ _ X.warmed
  have h4 : A.cells + (headSpec ws rm).room.cells ≤ R.cells := by rw [show (headSpec ws rm).room.cells = mc from hrc]; exact hp.1
  have h5 : A.slots + (headSpec ws rm).room.slots ≤ R.slots := by rw [show (headSpec ws rm).room.slots = ms from hrs]; exact hp.2.1
  have hPc : Pc a (A.U.calling g mk a) := hblind _ _ _ _ hp.2.2
  obtain ⟨U, Ls, c0, s0⟩ := A
  dsimp only [Pt.U, Pt.locs, Pt.cells, Pt.slots] at h1 h2 h3 h4 h5 X hn hPc ⊢
  obtain ⟨m9, methY, cY, hn9, hmY, hcY, -, hlY, -⟩ := Cond.codeWith_spec h2
  cases Option.some.inj (hn9.symm.trans hn)
  obtain ⟨kY, hkY, -⟩ := className_of_methodNamed hn
  have hinitY : kY.init = .initialized := Cond.initialized_spec (findClass_of_methodNamed hn) hkY h3
  have h : At U g.method c below := by rw [hg]; exact X.here
  have hlocals9 : W9 + (maxL + 11) + (headSpec ws rm).room.locals ≤ R.locals := hlocals
  have happ : (headSpec ws rm).appliesLoose y e.platform (U.calling g mk a) = true :=
    Spec.appliesLoose_calling (g := g) h hdg hn hkY hinitY
      (X.room_calling (g := g) (R' := (headSpec ws rm).room) hsize hmY hcY hframes (by rw [hlY]; omega) h4 h5) h1
  obtain ⟨mid, hmid⟩ := h.above
  have hfr : (U.setTop g).frames = (.java g :: mid) ++ below := by rw [State.frames_setTop' g h.top, hmid]; rfl
  obtain ⟨o, s₂, hsteps, -, hend, hq⟩ := Steps.callFree hM p X.admits X.cas X.clock (acts := []) hfr happ hPc trivial
  have hq' : vx_Q Qc XC mc ms free a (U.calling g mk a) o s₂ := hq
  rw [State.frames_setTop' g h.top] at hend
  obtain ⟨g₀, hg0⟩ := Option.isSome_iff_exists.mp h.top
  obtain ⟨r, hr⟩ := State.topJava?_eq_some.mp hg0
  have hr' : (({ U with heap := s₂.heap, slotsUsed := s₂.slotsUsed } : State).setVm s₂.vm).frames = .java g₀ :: r := hr
  rcases hq' with ⟨hqc, L, hfe, hL⟩ | ⟨q, rfl, E, ce, L, hx, hce, hcv, hcl, hW₂, hsm, hL⟩
  · obtain ⟨⟨v, rfl⟩, hW₂, e2, q2, q3, q4, q5, q6⟩ := id hfe
    have e3 : s₂ = ({ (U.calling g mk a).setFrames s₂.frames with heap := s₂.heap, slotsUsed := s₂.slotsUsed } : State).setVm s₂.vm := by
      have : s₂ = ({ s₂ with vm := (U.calling g mk a).vm } : State).setVm s₂.vm := rfl
      rw [e2] at this
      exact this
    obtain ⟨c₂, i₂, len₂, hc₂, hd₂, hf₂⟩ := hend
    have hW' : U.WarmedH s₂.vm := hW₂
    have hcc : c₂ = c := by
      have h1 : s₂.code? g.method = U.code? g.method := by
        rw [State.code?_eq, State.code?_eq, hW'.alike.method?]
      exact Option.some.inj (hc₂.symm.trans (h1.trans h.code))
    subst hcc
    have hlen : len₂ = len := by rw [hdg] at hd₂; cases hd₂; rfl
    subst hlen
    have hs₂ : s₂ = (({ U with heap := s₂.heap, slotsUsed := s₂.slotsUsed } : State).setVm s₂.vm).setTop { g with pc := g.pc + len₂, stack := v.toList ++ g.stack } := by
      refine e3.trans ?_
      rw [hf₂, State.calling_eq h.top, State.setFrames_setFrames, State.setTop_of_frames _ hr', hr]
      rfl
    have hsame : U.sameButNew ({ U with heap := s₂.heap, slotsUsed := s₂.slotsUsed } : State) L mc ms := by
      refine ⟨?_, q2, q3, q4, q5, q6⟩
      obtain ⟨t, ht, -⟩ := State.frames_cons hr
      show ({ U with heap := s₂.heap, slotsUsed := s₂.slotsUsed } : State) = { U.setFrames U.frames with heap := s₂.heap, slotsUsed := s₂.slotsUsed }
      rw [State.setFrames_self ht]
    subst hg
    refine Or.inl ⟨v, ⟨(({ U with heap := s₂.heap, slotsUsed := s₂.slotsUsed } : State).setVm s₂.vm), Ls ++ L, c0 + mc, s0 + ms⟩,
      ⟨X.admits, X.cas, X.clock, X.frames, X.room, X.hears, X.method, X.code, (X.here.setHeapUsed s₂.heap s₂.slotsUsed).setVm hW'.alike, X.tail, State.WarmedH.trans X.warmed hW', X.limits, X.bytes, X.same.trans (hsame.setVm s.vm)⟩,
      ⟨g, mk, s₂, L, rfl, rfl, hqc, rfl, hL, rfl, rfl⟩, ?_⟩
    show Steps p.tables e below _ ((({ U with heap := s₂.heap, slotsUsed := s₂.slotsUsed } : State).setVm s₂.vm).setTop { g with pc := g.pc + len₂, stack := v.toList ++ g.stack })
    rw [← hs₂]
    exact hsteps
  · obtain ⟨e2, q2, q3, q4, q5, q6⟩ := id hsm
    have e3 : s₂ = ({ (U.calling g mk a).setFrames s₂.frames with heap := s₂.heap, slotsUsed := s₂.slotsUsed } : State).setVm s₂.vm := by
      have : s₂ = ({ s₂ with vm := (U.calling g mk a).vm } : State).setVm s₂.vm := rfl
      rw [e2] at this
      exact this
    have hf₂ : s₂.frames = .throwing q :: .java g :: U.frames.tail := hend
    have hW' : U.WarmedH s₂.vm := hW₂
    have hs₂ : s₂ = ((({ U with heap := s₂.heap, slotsUsed := s₂.slotsUsed } : State).setVm s₂.vm).setTop g).pushFrame (.throwing q) := by
      refine e3.trans ?_
      rw [hf₂, State.calling_eq h.top, State.setFrames_setFrames, State.pushFrame, State.frames_setTop _ hr', State.setTop_of_frames _ hr', State.setFrames_setFrames, hr]
      rfl
    have hsame : U.sameButNew ({ U with heap := s₂.heap, slotsUsed := s₂.slotsUsed } : State) L mc ms := by
      refine ⟨?_, q2, q3, q4, q5, q6⟩
      obtain ⟨t, ht, -⟩ := State.frames_cons hr
      show ({ U with heap := s₂.heap, slotsUsed := s₂.slotsUsed } : State) = { U.setFrames U.frames with heap := s₂.heap, slotsUsed := s₂.slotsUsed }
      rw [State.setFrames_self ht]
    subst hg
    refine Or.inr ⟨q, ⟨(({ U with heap := s₂.heap, slotsUsed := s₂.slotsUsed } : State).setVm s₂.vm), Ls ++ L, c0 + mc, s0 + ms⟩,
      ⟨X.admits, X.cas, X.clock, X.frames, X.room, X.hears, X.method, X.code, (X.here.setHeapUsed s₂.heap s₂.slotsUsed).setVm hW'.alike, X.tail, State.WarmedH.trans X.warmed hW', X.limits, X.bytes, X.same.trans (hsame.setVm s.vm)⟩,
      ⟨g, mk, s₂, L, E, ce, rfl, rfl, hx, hce, hcv, hcl, rfl, hL, rfl, rfl⟩, ?_⟩
    show Steps p.tables e below _ (((({ U with heap := s₂.heap, slotsUsed := s₂.slotsUsed } : State).setVm s₂.vm).setTop g).pushFrame (.throwing q))
    rw [← hs₂]
    exact hsteps
end
variable {p : Program} {l : Launch} {e : Env} {R : Room} {s : State} {m : MethodId} {args : Array Value} {below : List Frame} {meth : Method} {c : Code} {T : State} {H : Heap} {locs : List Loc} {cells slots : Nat}
theorem vx_callVX (X : Stand p l e R s m args below meth c T locs cells slots) (hexec : p.tables.exec = Jvm.exec) {own C : String} {index : Nat} {y : MethodName} {bytes : ByteArray} {maxL : Nat} {ret : Option FieldType} {hh : List (Nat × Nat × Nat × Nat)}
    (hown : s.vm.findClass own = some m.cls) (hlink : (Cond.methodLink own index y).before args s = true) (hinst : (Cond.instanceMethod y).before args s = true) (hsel : (Cond.selects C y y).before args s = true)
    (hcode : (Cond.codeWith y bytes maxL ret hh).before args s = true) (hy : y.cls ≠ "java/lang/invoke/MethodHandle" ∧ y.cls ≠ "java/lang/invoke/VarHandle")
    {W9 : Nat} {Pre : Pt → Array Value → Prop} {Post : Pt → Array Value → Option Value → Pt → Prop} {PostX : Pt → Array Value → Addr → Pt → Prop} (hK : vx_Back l R p e below s args y 3 W9 Pre Post PostX)
    {b : Addr} {cellB : Cell} (hcell : T.heap[b]? = some cellB) (hobj : cellB.vm.isStatics = false) (hcls : s.vm.findClass C = some cellB.cls)
    {g : JFrame} (hg : g.method = m) (hsize : g.locals.size = c.maxLocals) {argsL rest : List Value} (hlen : ∀ sig, parseMethodDescriptor y.desc = some sig → argsL.length = sig.parameters.length)
    (hstack : g.stack = argsL.reverse ++ .ref b :: rest) (hW : 2 * g.monitorRoom + (rest.map fun v => v.category).sum ≤ W9) (hdg : decode c.code g.pc = .ok (.invokevirtual index, 3))
    (hpre : ∀ vm₁, s.WarmedH vm₁ → Pre ⟨T.setVm vm₁, locs, cells, slots⟩ (Value.ref b :: argsL).toArray) :
    (∃ (v : Option Value) (vm₁ : Vm) (B : Pt), s.WarmedH vm₁ ∧ Stand p l e R s m args below meth c B.U B.locs B.cells B.slots ∧ Post ⟨T.setVm vm₁, locs, cells, slots⟩ (Value.ref b :: argsL).toArray v B ∧
      ∀ target, Steps p.tables e below (B.U.setTop { g with pc := g.pc + 3, stack := v.toList ++ rest }) target → Steps p.tables e below (T.setTop g) target) ∨
    (∃ (q : Addr) (vm₁ : Vm) (B : Pt), s.WarmedH vm₁ ∧ Stand p l e R s m args below meth c B.U B.locs B.cells B.slots ∧ PostX ⟨T.setVm vm₁, locs, cells, slots⟩ (Value.ref b :: argsL).toArray q B ∧
      Steps p.tables e below (T.setTop g) ((B.U.setTop { g with stack := rest }).pushFrame (.throwing q))) := by
  obtain ⟨mk, methM, hnamed, hmethM, hstM, habM⟩ := Cond.instanceMethod_spec hinst
  obtain ⟨m8, methM', cM, hn8, hmethM', -, -, -, -, -, -, hsigM⟩ := Cond.codeWith_spec hcode
  cases Option.some.inj (hn8.symm.trans hnamed)
  cases hmethM.symm.trans hmethM'
  obtain ⟨c2, r2, m2, q1, q2, q3, q4, kP, hkP, hkPi⟩ := Cond.selects_spec hsel
  cases hcls.symm.trans q1
  cases (State.methodFound?_of_named hnamed hy).symm.trans q2
  cases hnamed.symm.trans q3
  have hselP : selectMethod e.platform s.vm cellB.cls mk = .method mk := by rw [Launch.admits_selectMethod X.admits]; exact q4
  obtain ⟨vm₁, X₁, hstep₁⟩ := X.invokevirtual hexec hown hlink hnamed hmethM hstM hkP hkPi hy (a := b) (cell := cellB) hcell
    (fun z h => by rw [h] at hobj; cases hobj) hselP hmethM habM hkP hkPi (g := g) hg (argsL := argsL) (rest := rest) (hlen _ hsigM) hstack hdg
  rcases hK m meth c ⟨T.setVm vm₁, locs, cells, slots⟩ { g with stack := rest } (.invokevirtual index) mk (Value.ref b :: argsL).toArray X₁ hg hsize hdg hW (X₁.named hnamed) (hpre vm₁ X₁.warmed) with ⟨v, B, X', hpost, hsteps⟩ | ⟨q, B, X', hpost, hsteps⟩
  · exact Or.inl ⟨v, vm₁, B, X₁.warmed, X', hpost, fun target h => hstep₁ _ fun acts => by rw [doInvoke_state]; exact hsteps.trans h⟩
  · exact Or.inr ⟨q, vm₁, B, X₁.warmed, X', hpost, hstep₁ _ fun acts => by rw [doInvoke_state]; exact hsteps⟩
theorem vx_callSX (X : Stand p l e R s m args below meth c T locs cells slots) (hexec : p.tables.exec = Jvm.exec) {own : String} {index : Nat} {y : MethodName} {bytes : ByteArray} {maxL : Nat} {ret : Option FieldType} {hh : List (Nat × Nat × Nat × Nat)}
    (hown : s.vm.findClass own = some m.cls) (hlink : (Cond.methodLink own index y).before args s = true) (hstat : (Cond.static y).before args s = true) (hinit : (Cond.initialized y.cls).before args s = true)
    (hcode : (Cond.codeWith y bytes maxL ret hh).before args s = true) (hy : y.cls ≠ "java/lang/invoke/MethodHandle" ∧ y.cls ≠ "java/lang/invoke/VarHandle")
    {W9 : Nat} {Pre : Pt → Array Value → Prop} {Post : Pt → Array Value → Option Value → Pt → Prop} {PostX : Pt → Array Value → Addr → Pt → Prop} (hK : vx_Back l R p e below s args y 3 W9 Pre Post PostX)
    {g : JFrame} (hg : g.method = m) (hsize : g.locals.size = c.maxLocals) {argsL rest : List Value} (hlen : ∀ sig, parseMethodDescriptor y.desc = some sig → argsL.length = sig.parameters.length)
    (hstack : g.stack = argsL.reverse ++ rest) (hW : 2 * g.monitorRoom + (rest.map fun v => v.category).sum ≤ W9) (hdg : decode c.code g.pc = .ok (.invokestatic index, 3))
    (hpre : ∀ vm₁, s.WarmedH vm₁ → Pre ⟨T.setVm vm₁, locs, cells, slots⟩ argsL.toArray) :
    (∃ (v : Option Value) (vm₁ : Vm) (B : Pt), s.WarmedH vm₁ ∧ Stand p l e R s m args below meth c B.U B.locs B.cells B.slots ∧ Post ⟨T.setVm vm₁, locs, cells, slots⟩ argsL.toArray v B ∧
      ∀ target, Steps p.tables e below (B.U.setTop { g with pc := g.pc + 3, stack := v.toList ++ rest }) target → Steps p.tables e below (T.setTop g) target) ∨
    (∃ (q : Addr) (vm₁ : Vm) (B : Pt), s.WarmedH vm₁ ∧ Stand p l e R s m args below meth c B.U B.locs B.cells B.slots ∧ PostX ⟨T.setVm vm₁, locs, cells, slots⟩ argsL.toArray q B ∧
      Steps p.tables e below (T.setTop g) ((B.U.setTop { g with stack := rest }).pushFrame (.throwing q))) := by
  obtain ⟨mk, methM, cM, hnamed, hmethM, -, -, -, -, -, -, hsigM⟩ := Cond.codeWith_spec hcode
  have hstatic : methM.isStatic = true := Cond.static_spec hnamed hmethM hstat
  obtain ⟨kP, hkP, -⟩ := className_of_methodNamed hnamed
  have hinitP : kP.init = .initialized := Cond.initialized_spec (findClass_of_methodNamed hnamed) hkP hinit
  obtain ⟨vm₁, X₁, hstep₁⟩ := X.invokestatic hexec hown hlink hnamed hmethM hstatic hkP hinitP hy (g := g) hg (argsL := argsL) (rest := rest) (hlen _ hsigM) hstack hdg
  rcases hK m meth c ⟨T.setVm vm₁, locs, cells, slots⟩ { g with stack := rest } (.invokestatic index) mk argsL.toArray X₁ hg hsize hdg hW (X₁.named hnamed) (hpre vm₁ X₁.warmed) with ⟨v, B, X', hpost, hsteps⟩ | ⟨q, B, X', hpost, hsteps⟩
  · exact Or.inl ⟨v, vm₁, B, X₁.warmed, X', hpost, fun target h => hstep₁ _ fun acts => by rw [doInvoke_state]; exact hsteps.trans h⟩
  · exact Or.inr ⟨q, vm₁, B, X₁.warmed, X', hpost, hstep₁ _ fun acts => by rw [doInvoke_state]; exact hsteps⟩
theorem vx_callVW (X : Stand p l e R s m args below meth c T locs cells slots) (hexec : p.tables.exec = Jvm.exec) {own C : String} {index : Nat} {y : MethodName} {bytes : ByteArray} {maxL : Nat} {ret : Option FieldType} {hh : List (Nat × Nat × Nat × Nat)}
    (hown : s.vm.findClass own = some m.cls) (hlink : (Cond.methodLink own index y).before args s = true) (hinst : (Cond.instanceMethod y).before args s = true) (hsel : (Cond.selects C y y).before args s = true)
    (hcode : (Cond.codeWith y bytes maxL ret hh).before args s = true) (hy : y.cls ≠ "java/lang/invoke/MethodHandle" ∧ y.cls ≠ "java/lang/invoke/VarHandle")
    {W9 : Nat} {Pre : Pt → Array Value → Prop} {Post : Pt → Array Value → Option Value → Pt → Prop} (hK : Back l R p e below s args y 3 W9 Pre Post)
    {b : Addr} {cellB : Cell} (hcell : T.heap[b]? = some cellB) (hobj : cellB.vm.isStatics = false) (hcls : s.vm.findClass C = some cellB.cls)
    {g : JFrame} (hg : g.method = m) (hsize : g.locals.size = c.maxLocals) {argsL rest : List Value} (hlen : ∀ sig, parseMethodDescriptor y.desc = some sig → argsL.length = sig.parameters.length)
    (hstack : g.stack = argsL.reverse ++ .ref b :: rest) (hW : 2 * g.monitorRoom + (rest.map fun v => v.category).sum ≤ W9) (hdg : decode c.code g.pc = .ok (.invokevirtual index, 3))
    (hpre : ∀ vm₁, s.WarmedH vm₁ → Pre ⟨T.setVm vm₁, locs, cells, slots⟩ (Value.ref b :: argsL).toArray) :
    ∃ (v : Option Value) (vm₁ : Vm) (B : Pt), s.WarmedH vm₁ ∧ Stand p l e R s m args below meth c B.U B.locs B.cells B.slots ∧ Post ⟨T.setVm vm₁, locs, cells, slots⟩ (Value.ref b :: argsL).toArray v B ∧
      ∀ target, Steps p.tables e below (B.U.setTop { g with pc := g.pc + 3, stack := v.toList ++ rest }) target → Steps p.tables e below (T.setTop g) target := by
  obtain ⟨mk, methM, hnamed, hmethM, hstM, habM⟩ := Cond.instanceMethod_spec hinst
  obtain ⟨m8, methM', cM, hn8, hmethM', -, -, -, -, -, -, hsigM⟩ := Cond.codeWith_spec hcode
  cases Option.some.inj (hn8.symm.trans hnamed)
  cases hmethM.symm.trans hmethM'
  obtain ⟨c2, r2, m2, q1, q2, q3, q4, kP, hkP, hkPi⟩ := Cond.selects_spec hsel
  cases hcls.symm.trans q1
  cases (State.methodFound?_of_named hnamed hy).symm.trans q2
  cases hnamed.symm.trans q3
  have hselP : selectMethod e.platform s.vm cellB.cls mk = .method mk := by rw [Launch.admits_selectMethod X.admits]; exact q4
  obtain ⟨vm₁, X₁, hstep₁⟩ := X.invokevirtual hexec hown hlink hnamed hmethM hstM hkP hkPi hy (a := b) (cell := cellB) hcell
    (fun z h => by rw [h] at hobj; cases hobj) hselP hmethM habM hkP hkPi (g := g) hg (argsL := argsL) (rest := rest) (hlen _ hsigM) hstack hdg
  obtain ⟨v, B, X', hpost, hsteps⟩ := hK m meth c ⟨T.setVm vm₁, locs, cells, slots⟩ { g with stack := rest } (.invokevirtual index) mk (Value.ref b :: argsL).toArray X₁ hg hsize hdg hW (X₁.named hnamed) (hpre vm₁ X₁.warmed)
  exact ⟨v, vm₁, B, X₁.warmed, X', hpost, fun target h => hstep₁ _ fun acts => by rw [doInvoke_state]; exact hsteps.trans h⟩
abbrev vx_CVW (R : Room) (s : State) (args : Array Value) (own C : String) (index : Nat) (y : MethodName) (bytes : ByteArray) (maxL : Nat) (ret : Option FieldType) (hh : List (Nat × Nat × Nat × Nat)) (ws : List Cond) (rm : Room) (mc ms n : Nat) : Prop :=
  (rm.cells = mc ∧ rm.slots = ms ∧ rm.frames + 1 ≤ R.frames ∧ 8 + (maxL + 11) + rm.locals ≤ R.locals ∧ (∀ w ∈ ws, ∀ (a' : Array Value) (U : State), s.WarmedH U.vm → w.before a' U = true) ∧ Cond.codeWith y bytes maxL ret hh ∈ ws) ∧
  (Cond.codeWith y bytes maxL ret hh).before args s = true ∧ (Cond.initialized y.cls).before args s = true ∧ (y.cls ≠ "java/lang/invoke/MethodHandle" ∧ y.cls ≠ "java/lang/invoke/VarHandle") ∧
  (∀ sig, parseMethodDescriptor y.desc = some sig → n = sig.parameters.length) ∧ (Cond.methodLink own index y).before args s = true ∧ (Cond.instanceMethod y).before args s = true ∧ (Cond.selects C y y).before args s = true
theorem vx_cwVW {own C : String} {index maxL mc ms : Nat} {y : MethodName} {bytes : ByteArray} {ret : Option FieldType} {hh : List (Nat × Nat × Nat × Nat)} {Ts ws ws' : List Cond} {rm : Room} (n : Nat) (ht : ∀ w ∈ Ts, w.before args s = true) (hT : GoodIn Ts (wsV own index C y ws)) (hw : ws = Cond.codeWith y bytes maxL ret hh :: ws') (hrc : rm.cells = mc) (hrs : rm.slots = ms)
    (hd : y.cls = C ∧ y.cls ≠ "java/lang/invoke/MethodHandle" ∧ y.cls ≠ "java/lang/invoke/VarHandle" ∧ (parseMethodDescriptor y.desc).map (fun d => d.parameters.length) = some n) (hR : rm.frames + 1 ≤ R.frames ∧ 8 + (maxL + 11) + rm.locals ≤ R.locals) :
    vx_CVW R s args own C index y bytes maxL ret hh ws rm mc ms n := by
  obtain ⟨hC, hd⟩ := hd
  subst hC
  have ok : ∀ w ∈ wsV own index y.cls y ws, w.before args s = true := fun w h => ht w (hT w h).1
  have hG : GoodIn Ts ws := fun w h => hT w (by unfold wsV; exact List.mem_append_right _ h)
  have hc : Cond.codeWith y bytes maxL ret hh ∈ ws := by rw [hw]; exact List.mem_cons_self
  refine ⟨⟨hrc, hrs, hR.1, hR.2, pay_in ht hG, hc⟩, ht _ (hG _ hc).1, ok _ (by simp [wsV]), ⟨hd.1, hd.2.1⟩, fun sig h => ?_, ok _ (by simp [wsV]), ok _ (by simp [wsV]), ok _ (by simp [wsV])⟩
  have h2 := hd.2.2
  rw [h] at h2
  exact (Option.some.inj h2).symm
theorem vx_runVW {y : MethodName} {bytes cc : ByteArray} {maxL nL mc ms n index : Nat} {ret : Option FieldType} {hh : List (Nat × Nat × Nat × Nat)} {ws : List Cond} {rm : Room} {Pc : Array Value → State → Prop} {Qc : Array Value → State → Outcome → State → Prop} {free : Addr → Prop} {Ts : List Cond} {own C : String} {b : Addr} {As rest : List Value} {g : JFrame}
    (S : CallFix p m c cc nL s args Ts own) (hM : Met l y ws rm Pc Qc mc ms free) (cw : vx_CVW R s args own C index y bytes maxL ret hh ws rm mc ms n) (hp : PreV s H C b Pc As)
    (hg : g.method = m) (hn : As.length = n) (hsize : g.locals.size = nL) (hstack : g.stack = As.reverse ++ .ref b :: rest) (hW : 2 * g.monitorRoom + (rest.map fun v => v.category).sum ≤ 8) (hdg : decode cc g.pc = .ok (.invokevirtual index, 3)) (hf : cells + mc ≤ R.cells ∧ slots + ms ≤ R.slots) :
    va_Run p l e R s m args below meth c H locs cells slots mc ms g rest (Qc (Value.ref b :: As).toArray) free := by
  obtain ⟨⟨hrc, hrs, hfr, hlo, hws, hcw⟩, hcode, hini, hy, hlen, hl, hin, hse⟩ := cw
  have hK : Back l R p e below s args y 3 8 (PreOf R mc ms Pc) (PostOf Qc mc ms free) := va_backW (hh := hh) (bytes := bytes) (maxL := maxL) (ret := ret) hM hp.1 hrc hrs hfr hlo hws hcw (fun a' U hW => word_at hW (Or.inl (by first | rfl | simp [Cond.onTables, Cond.keeps, Cond.steady])) hini)
  obtain ⟨hx, hb, hml, ho, -⟩ := S
  obtain ⟨-, ⟨cellB, hcB, hoB, hclB⟩, hPc⟩ := hp
  intro T hT X
  obtain ⟨v, vm₁, ⟨U', l2, c2, s2⟩, hW₁, X', ⟨g', mk, t, L, e1, e2, hq, h1, hL, h2, h3⟩, st⟩ := vx_callVW X hx (C := C) (hh := hh) (bytes := bytes) (maxL := maxL) (ret := ret) ho hl hin hse hcode hy hK (by rw [hT]; exact hcB) hoB hclB hg (hsize.trans hml.symm) (argsL := As) (rest := rest) (fun sig h => hn.trans (hlen sig h)) hstack hW (by rw [hb]; exact hdg)
    (fun vm₁ hW₁ => ⟨hf.1, hf.2, hPc (T.setVm vm₁) hT hW₁⟩)
  dsimp only [Pt.U, Pt.locs, Pt.cells, Pt.slots] at X' e1 e2 h1 h2 h3 st
  subst h1; subst h2; subst h3
  exact ⟨v, (T.setVm vm₁).calling g' mk (Value.ref b :: As).toArray, t, U', L, hT, X', hL, e1, e2, hq, st⟩
section
variable {y : MethodName} {bytes cc : ByteArray} {maxL nL mc ms n index : Nat} {ret : Option FieldType} {ws : List Cond} {rm : Room} {Pc : Array Value → State → Prop} {Qc : Array Value → State → Outcome → State → Prop} {XC : String → State → State → Prop} {free : Addr → Prop} {Ts : List Cond} {own C : String} {b : Addr} {As rest : List Value} {g : JFrame}
theorem vx_runVX {hh : List (Nat × Nat × Nat × Nat)} (S : CallFix p m c cc nL s args Ts own) (hM : vx_Met l y ws rm Pc Qc XC mc ms free) (cw : vx_CVW R s args own C index y bytes maxL ret hh ws rm mc ms n) (hp : PreV s H C b Pc As)
    (hg : g.method = m) (hn : As.length = n) (hsize : g.locals.size = nL) (hstack : g.stack = As.reverse ++ .ref b :: rest) (hW : 2 * g.monitorRoom + (rest.map fun v => v.category).sum ≤ 8) (hdg : decode cc g.pc = .ok (.invokevirtual index, 3)) (hf : cells + mc ≤ R.cells ∧ slots + ms ≤ R.slots) :
    vx_Run p l e R s m args below meth c H locs cells slots mc ms g rest (Qc (Value.ref b :: As).toArray) XC free := by
  obtain ⟨⟨hrc, hrs, hfr, hlo, hws, hcw⟩, hcode, hini, hy, hlen, hl, hin, hse⟩ := cw
  have hK : vx_Back l R p e below s args y 3 8 (PreOf R mc ms Pc) (PostOf Qc mc ms free) (vx_Post XC mc ms free) := vx_backW (hh := hh) (bytes := bytes) (maxL := maxL) (ret := ret) hM hp.1 hrc hrs hfr hlo hws hcw (fun a' U hW => word_at hW (Or.inl (by first | rfl | simp [Cond.onTables, Cond.keeps, Cond.steady])) hini)
  obtain ⟨hx, hb, hml, ho, -⟩ := S
  obtain ⟨-, ⟨cellB, hcB, hoB, hclB⟩, hPc⟩ := hp
  intro T hT X
  rcases vx_callVX X hx (C := C) (hh := hh) (bytes := bytes) (maxL := maxL) (ret := ret) ho hl hin hse hcode hy hK (by rw [hT]; exact hcB) hoB hclB hg (hsize.trans hml.symm) (argsL := As) (rest := rest) (fun sig h => hn.trans (hlen sig h)) hstack hW (by rw [hb]; exact hdg)
    (fun vm₁ hW₁ => ⟨hf.1, hf.2, hPc (T.setVm vm₁) hT hW₁⟩) with ⟨v, vm₁, ⟨U', l2, c2, s2⟩, hW₁, X', ⟨g', mk, t, L, e1, e2, hq, h1, hL, h2, h3⟩, st⟩ | ⟨q, vm₁, ⟨U', l2, c2, s2⟩, hW₁, X', ⟨g', mk, t, L, E, ce, e1, e2, hq, hce, hcv, hcl, h1, hL, h2, h3⟩, st⟩
  · dsimp only [Pt.U, Pt.locs, Pt.cells, Pt.slots] at X' e1 e2 h1 h2 h3 st
    subst h1; subst h2; subst h3
    exact Or.inl ⟨v, (T.setVm vm₁).calling g' mk (Value.ref b :: As).toArray, t, U', L, hT, X', hL, e1, e2, hq, st⟩
  · dsimp only [Pt.U, Pt.locs, Pt.cells, Pt.slots] at X' e1 e2 h1 h2 h3 st hcl
    subst h1; subst h2; subst h3
    exact Or.inr ⟨q, (T.setVm vm₁).calling g' mk (Value.ref b :: As).toArray, t, U', L, E, ce, hT, X', hL, e1, e2, hq, hce, hcv, vx_cls hW₁ hcl, st⟩
theorem vx_runSX {hh : List (Nat × Nat × Nat × Nat)} (S : CallFix p m c cc nL s args Ts own) (hM : vx_Met l y ws rm Pc Qc XC mc ms free) (cw : vx_CSW R s args own index y bytes maxL ret hh ws rm mc ms n) (hp : PreS s H Pc As)
    (hg : g.method = m) (hn : As.length = n) (hsize : g.locals.size = nL) (hstack : g.stack = As.reverse ++ rest) (hW : 2 * g.monitorRoom + (rest.map fun v => v.category).sum ≤ 8) (hdg : decode cc g.pc = .ok (.invokestatic index, 3)) (hf : cells + mc ≤ R.cells ∧ slots + ms ≤ R.slots) :
    vx_Run p l e R s m args below meth c H locs cells slots mc ms g rest (Qc As.toArray) XC free := by
  obtain ⟨⟨hrc, hrs, hfr, hlo, hws, hcw⟩, hcode, hini, hy, hlen, hl, hstt⟩ := cw
  have hK : vx_Back l R p e below s args y 3 8 (PreOf R mc ms Pc) (PostOf Qc mc ms free) (vx_Post XC mc ms free) := vx_backW (hh := hh) (bytes := bytes) (maxL := maxL) (ret := ret) hM hp.1 hrc hrs hfr hlo hws hcw (fun a' U hW => word_at hW (Or.inl (by first | rfl | simp [Cond.onTables, Cond.keeps, Cond.steady])) hini)
  obtain ⟨hx, hb, hml, ho, -⟩ := S
  intro T hT X
  rcases vx_callSX X hx (hh := hh) (bytes := bytes) (maxL := maxL) (ret := ret) ho hl hstt hini hcode hy hK hg (hsize.trans hml.symm) (argsL := As) (rest := rest) (fun sig h => hn.trans (hlen sig h)) hstack hW (by rw [hb]; exact hdg)
    (fun vm₁ hW₁ => ⟨hf.1, hf.2, hp.2 (T.setVm vm₁) hT hW₁⟩) with ⟨v, vm₁, ⟨U', l2, c2, s2⟩, hW₁, X', ⟨g', mk, t, L, e1, e2, hq, h1, hL, h2, h3⟩, st⟩ | ⟨q, vm₁, ⟨U', l2, c2, s2⟩, hW₁, X', ⟨g', mk, t, L, E, ce, e1, e2, hq, hce, hcv, hcl, h1, hL, h2, h3⟩, st⟩
  · dsimp only [Pt.U, Pt.locs, Pt.cells, Pt.slots] at X' e1 e2 h1 h2 h3 st
    subst h1; subst h2; subst h3
    exact Or.inl ⟨v, (T.setVm vm₁).calling g' mk As.toArray, t, U', L, hT, X', hL, e1, e2, hq, st⟩
  · dsimp only [Pt.U, Pt.locs, Pt.cells, Pt.slots] at X' e1 e2 h1 h2 h3 st hcl
    subst h1; subst h2; subst h3
    exact Or.inr ⟨q, (T.setVm vm₁).calling g' mk As.toArray, t, U', L, E, ce, hT, X', hL, e1, e2, hq, hce, hcv, vx_cls hW₁ hcl, st⟩
end
end VXH
theorem vx_ofWH {l : Launch} {y : MethodName} {ws ws' : List Cond} {rm : Room} {Pc : Array Value → State → Prop} {Qc : Array Value → State → Outcome → State → Prop} {XC : String → State → State → Prop} {mc ms : Nat} {free : Addr → Prop} {cc : ByteArray} {maxL : Nat} {ret : Option FieldType} {hh : List (Nat × Nat × Nat × Nat)}
    (hy : plainName y.cls = true) (hw : ws = Cond.codeWith y cc maxL ret hh :: ws')
    (body : ∀ p e s m args below meth c s₁, BodyLoose p l y (headSpec ws rm) cc maxL ret e s m args below meth c s₁ → c.maxLocals = maxL → Pc args s →
      W p l e (headSpec ws rm).room s m args below meth c s.heap [] 0 0 (vx_MQ below Qc XC args s mc ms free) (entryFrame m args maxL)) : vx_Met l y ws rm Pc Qc XC mc ms free := by
  refine MetFree.of_bodyS (code := cc) (maxLocals := maxL) (ret := ret) hy ?_ ?_
  · intro args s m h hn
    obtain ⟨m9, meth, c, hn9, h1, h2, h3, h4, -, h5, h6, -⟩ := Cond.codeWith_spec (atoms_spec (ws := ws) h _ (by rw [hw]; exact List.mem_cons_self))
    cases hn.symm.trans hn9
    exact ⟨meth, c, h1, h2, h3, h4, h5, h6⟩
  · intro p e s m args below meth c s₁ B hml hP _
    have hh0 : s₁.heap = s.heap := by rw [B.state]; rfl
    obtain ⟨t, a1, o, b1, b2, b3⟩ := body p e s m args below meth c s₁ B hml hP s₁ hh0 (Stand.of_body B)
    exact ⟨t, o, a1, b1, b2, b3⟩
/-! ===== END ===== -/
end
section
def RX0 : String := "UnionList$Accounts"
def TX0 : u_T := fun k => match k with
  | 0 => ("UnionList$Accounts", "debts", "[I", true)
  | 1 => ("UnionList$Accounts", "homeCopies", "[I", true)
  | _ => ("UnionList$Accounts", "freeLoans", "[I", true)
def tyX0 : Nat → FieldType := fun k => match k with
  | 0 => .array .int
  | 1 => .array .int
  | _ => .array .int
abbrev wsX00 : List Cond := u_ws RX0 TX0 3
theorem nmX0 : ∀ a, a < 3 → ∀ b, b < 3 → a ≠ b → (TX0 a).2.1 ≠ (TX0 b).2.1 := by decide +kernel
theorem tyX0_ok : ∀ k, k < 3 → parseFieldDescriptor (TX0 k).2.2.1 = some (tyX0 k) := by decide +kernel
abbrev cX0_init : ByteArray := prog_2_method_1_code
def yX0_init : MethodName := ⟨RX0, "<init>", "()V"⟩
abbrev cX0_countHomeCopy : ByteArray := prog_2_method_2_code
def yX0_countHomeCopy : MethodName := ⟨RX0, "countHomeCopy", "(I)V"⟩
abbrev cX0_beginQuarter : ByteArray := prog_2_method_3_code
def yX0_beginQuarter : MethodName := ⟨RX0, "beginQuarter", "()V"⟩
abbrev cX0_freeLoansOf : ByteArray := prog_2_method_4_code
def yX0_freeLoansOf : MethodName := ⟨RX0, "freeLoansOf", "(I)I"⟩
abbrev cX0_charge : ByteArray := prog_2_method_5_code
def yX0_charge : MethodName := ⟨RX0, "charge", "(III)V"⟩
abbrev cX0_chargeLoan : ByteArray := prog_2_method_6_code
def yX0_chargeLoan : MethodName := ⟨RX0, "chargeLoan", "(II)V"⟩
abbrev cX0_balance : ByteArray := prog_2_method_7_code
def yX0_balance : MethodName := ⟨RX0, "balance", "(II)I"⟩
abbrev cX0_clearDebts : ByteArray := prog_2_method_8_code
def yX0_clearDebts : MethodName := ⟨RX0, "clearDebts", "()I"⟩
def RX1 : String := "UnionList$Copy"
def TX1 : u_T := fun k => match k with
  | 0 => ("UnionList$Copy", "number", "I", true)
  | 1 => ("UnionList$Copy", "home", "I", true)
  | 2 => ("UnionList$Copy", "title", "I", true)
  | 3 => ("UnionList$Copy", "holder", "I", false)
  | 4 => ("UnionList$Copy", "onItsWay", "Z", false)
  | 5 => ("UnionList$Copy", "knownToList", "I", false)
  | 6 => ("UnionList$Copy", "harmedBy", "I", false)
  | _ => ("UnionList$Copy", "harmKnown", "Z", false)
def tyX1 : Nat → FieldType := fun k => match k with
  | 0 => .int
  | 1 => .int
  | 2 => .int
  | 3 => .int
  | 4 => .boolean
  | 5 => .int
  | 6 => .int
  | _ => .boolean
abbrev wsX10 : List Cond := u_ws RX1 TX1 8
theorem nmX1 : ∀ a, a < 8 → ∀ b, b < 8 → a ≠ b → (TX1 a).2.1 ≠ (TX1 b).2.1 := by decide +kernel
theorem tyX1_ok : ∀ k, k < 8 → parseFieldDescriptor (TX1 k).2.2.1 = some (tyX1 k) := by decide +kernel
abbrev cX1_init : ByteArray := prog_3_method_1_code
def yX1_init : MethodName := ⟨RX1, "<init>", "(III)V"⟩
abbrev cX1_isAtHome : ByteArray := prog_3_method_2_code
def yX1_isAtHome : MethodName := ⟨RX1, "isAtHome", "()Z"⟩
abbrev cX1_isHarmed : ByteArray := prog_3_method_3_code
def yX1_isHarmed : MethodName := ⟨RX1, "isHarmed", "()Z"⟩
abbrev cX1_canBeSent : ByteArray := prog_3_method_4_code
def yX1_canBeSent : MethodName := ⟨RX1, "canBeSent", "()Z"⟩
def RX2 : String := "UnionList$Post"
def TX2 : u_T := fun k => match k with
  | 0 => ("UnionList$Post", "waiting", "[LUnionList$Sent;", true)
  | _ => ("UnionList$Post", "size", "I", false)
def tyX2 : Nat → FieldType := fun k => match k with
  | 0 => .array (.object "UnionList$Sent")
  | _ => .int
abbrev wsX20 : List Cond := u_ws RX2 TX2 2
theorem nmX2 : ∀ a, a < 2 → ∀ b, b < 2 → a ≠ b → (TX2 a).2.1 ≠ (TX2 b).2.1 := by decide +kernel
theorem tyX2_ok : ∀ k, k < 2 → parseFieldDescriptor (TX2 k).2.2.1 = some (tyX2 k) := by decide +kernel
abbrev cX2_init : ByteArray := prog_4_method_1_code
def yX2_init : MethodName := ⟨RX2, "<init>", "(I)V"⟩
abbrev cX2_put : ByteArray := prog_4_method_2_code
def yX2_put : MethodName := ⟨RX2, "put", "(LUnionList$Sent;)V"⟩
abbrev cX2_takeArrived : ByteArray := prog_4_method_3_code
def yX2_takeArrived : MethodName := ⟨RX2, "takeArrived", "(I)LUnionList$Sent;"⟩
def RX3 : String := "UnionList$Request"
def TX3 : u_T := fun k => match k with
  | 0 => ("UnionList$Request", "house", "I", true)
  | 1 => ("UnionList$Request", "title", "I", true)
  | 2 => ("UnionList$Request", "copy", "LUnionList$Copy;", false)
  | 3 => ("UnionList$Request", "state", "I", false)
  | 4 => ("UnionList$Request", "dueDay", "I", false)
  | 5 => ("UnionList$Request", "recallSent", "Z", false)
  | _ => ("UnionList$Request", "askedHomes", "I", false)
def tyX3 : Nat → FieldType := fun k => match k with
  | 0 => .int
  | 1 => .int
  | 2 => .object "UnionList$Copy"
  | 3 => .int
  | 4 => .int
  | 5 => .boolean
  | _ => .int
abbrev wsX30 : List Cond := u_ws RX3 TX3 7
theorem nmX3 : ∀ a, a < 7 → ∀ b, b < 7 → a ≠ b → (TX3 a).2.1 ≠ (TX3 b).2.1 := by decide +kernel
theorem tyX3_ok : ∀ k, k < 7 → parseFieldDescriptor (TX3 k).2.2.1 = some (tyX3 k) := by decide +kernel
abbrev cX3_init : ByteArray := prog_5_method_1_code
def yX3_init : MethodName := ⟨RX3, "<init>", "(II)V"⟩
abbrev cX3_markAsked : ByteArray := prog_5_method_2_code
def yX3_markAsked : MethodName := ⟨RX3, "markAsked", "(I)V"⟩
abbrev cX3_mayAskFor : ByteArray := prog_5_method_3_code
def yX3_mayAskFor : MethodName := ⟨RX3, "mayAskFor", "(LUnionList$Copy;)Z"⟩
def RX4 : String := "UnionList$Sent"
def TX4 : u_T := fun k => match k with
  | 0 => ("UnionList$Sent", "kind", "I", true)
  | 1 => ("UnionList$Sent", "arrival", "I", true)
  | 2 => ("UnionList$Sent", "copy", "LUnionList$Copy;", true)
  | _ => ("UnionList$Sent", "request", "LUnionList$Request;", true)
def tyX4 : Nat → FieldType := fun k => match k with
  | 0 => .int
  | 1 => .int
  | 2 => .object "UnionList$Copy"
  | _ => .object "UnionList$Request"
abbrev wsX40 : List Cond := u_ws RX4 TX4 4
theorem nmX4 : ∀ a, a < 4 → ∀ b, b < 4 → a ≠ b → (TX4 a).2.1 ≠ (TX4 b).2.1 := by decide +kernel
theorem tyX4_ok : ∀ k, k < 4 → parseFieldDescriptor (TX4 k).2.2.1 = some (tyX4 k) := by decide +kernel
abbrev cX4_init : ByteArray := prog_6_method_1_code
def yX4_init : MethodName := ⟨RX4, "<init>", "(IILUnionList$Copy;LUnionList$Request;)V"⟩
def RX5 : String := "UnionList"
def TX5 : u_T := fun k => match k with
  | 0 => ("UnionList", "copies", "[LUnionList$Copy;", true)
  | 1 => ("UnionList", "requests", "[LUnionList$Request;", true)
  | 2 => ("UnionList", "post", "LUnionList$Post;", true)
  | 3 => ("UnionList", "accounts", "LUnionList$Accounts;", true)
  | 4 => ("UnionList", "copyCount", "I", false)
  | 5 => ("UnionList", "requestCount", "I", false)
  | _ => ("UnionList", "day", "I", false)
def tyX5 : Nat → FieldType := fun k => match k with
  | 0 => .array (.object "UnionList$Copy")
  | 1 => .array (.object "UnionList$Request")
  | 2 => .object "UnionList$Post"
  | 3 => .object "UnionList$Accounts"
  | 4 => .int
  | 5 => .int
  | _ => .int
abbrev wsX50 : List Cond := u_ws RX5 TX5 7
theorem nmX5 : ∀ a, a < 7 → ∀ b, b < 7 → a ≠ b → (TX5 a).2.1 ≠ (TX5 b).2.1 := by decide +kernel
theorem tyX5_ok : ∀ k, k < 7 → parseFieldDescriptor (TX5 k).2.2.1 = some (tyX5 k) := by decide +kernel
abbrev cX5_init : ByteArray := prog_1_method_1_code
def yX5_init : MethodName := ⟨RX5, "<init>", "()V"⟩
abbrev cX5_addCopy : ByteArray := prog_1_method_2_code
def yX5_addCopy : MethodName := ⟨RX5, "addCopy", "(II)I"⟩
abbrev cX5_inHandsOf : ByteArray := prog_1_method_3_code
def yX5_inHandsOf : MethodName := ⟨RX5, "inHandsOf", "(I)I"⟩
abbrev cX5_isFree : ByteArray := prog_1_method_4_code
def yX5_isFree : MethodName := ⟨RX5, "isFree", "(I)Z"⟩
abbrev cX5_listed : ByteArray := prog_1_method_5_code
def yX5_listed : MethodName := ⟨RX5, "listed", "(I)I"⟩
abbrev cX5_harm : ByteArray := prog_1_method_6_code
def yX5_harm : MethodName := ⟨RX5, "harm", "(I)I"⟩
abbrev cX5_look : ByteArray := prog_1_method_7_code
def yX5_look : MethodName := ⟨RX5, "look", "(I)I"⟩
abbrev cX5_mend : ByteArray := prog_1_method_8_code
def yX5_mend : MethodName := ⟨RX5, "mend", "(I)V"⟩
abbrev cX5_request : ByteArray := prog_1_method_9_code
def yX5_request : MethodName := ⟨RX5, "request", "(II)I"⟩
abbrev cX5_state : ByteArray := prog_1_method_10_code
def yX5_state : MethodName := ⟨RX5, "state", "(I)I"⟩
abbrev cX5_copyOf : ByteArray := prog_1_method_11_code
def yX5_copyOf : MethodName := ⟨RX5, "copyOf", "(I)I"⟩
abbrev cX5_due : ByteArray := prog_1_method_12_code
def yX5_due : MethodName := ⟨RX5, "due", "(I)I"⟩
abbrev cX5_renew : ByteArray := prog_1_method_13_code
def yX5_renew : MethodName := ⟨RX5, "renew", "(I)I"⟩
abbrev cX5_recall : ByteArray := prog_1_method_14_code
def yX5_recall : MethodName := ⟨RX5, "recall", "(I)I"⟩
abbrev cX5_sendBack : ByteArray := prog_1_method_15_code
def yX5_sendBack : MethodName := ⟨RX5, "sendBack", "(I)I"⟩
abbrev cX5_pass : ByteArray := prog_1_method_16_code
def yX5_pass : MethodName := ⟨RX5, "pass", "(I)I"⟩
abbrev cX5_today : ByteArray := prog_1_method_17_code
def yX5_today : MethodName := ⟨RX5, "today", "()I"⟩
abbrev cX5_owes : ByteArray := prog_1_method_18_code
def yX5_owes : MethodName := ⟨RX5, "owes", "(II)I"⟩
abbrev cX5_settle : ByteArray := prog_1_method_19_code
def yX5_settle : MethodName := ⟨RX5, "settle", "()I"⟩
abbrev cX5_quota : ByteArray := prog_1_method_20_code
def yX5_quota : MethodName := ⟨RX5, "quota", "(I)I"⟩
abbrev cX5_isHouse : ByteArray := prog_1_method_21_code
def yX5_isHouse : MethodName := ⟨RX5, "isHouse", "(I)Z"⟩
abbrev cX5_isTitle : ByteArray := prog_1_method_22_code
def yX5_isTitle : MethodName := ⟨RX5, "isTitle", "(I)Z"⟩
abbrev cX5_copyNumbered : ByteArray := prog_1_method_23_code
def yX5_copyNumbered : MethodName := ⟨RX5, "copyNumbered", "(I)LUnionList$Copy;"⟩
abbrev cX5_requestNumbered : ByteArray := prog_1_method_24_code
def yX5_requestNumbered : MethodName := ⟨RX5, "requestNumbered", "(I)LUnionList$Request;"⟩
abbrev cX5_way : ByteArray := prog_1_method_25_code
def yX5_way : MethodName := ⟨RX5, "way", "(II)I"⟩
abbrev cX5_wayToList : ByteArray := prog_1_method_26_code
def yX5_wayToList : MethodName := ⟨RX5, "wayToList", "(I)I"⟩
abbrev cX5_send : ByteArray := prog_1_method_27_code
def yX5_send : MethodName := ⟨RX5, "send", "(IILUnionList$Copy;LUnionList$Request;)I"⟩
abbrev cX5_sendNews : ByteArray := prog_1_method_28_code
def yX5_sendNews : MethodName := ⟨RX5, "sendNews", "(ILUnionList$Copy;)V"⟩
abbrev cX5_arrivalsOfNextDay : ByteArray := prog_1_method_29_code
def yX5_arrivalsOfNextDay : MethodName := ⟨RX5, "arrivalsOfNextDay", "()I"⟩
abbrev cX5_deliver : ByteArray := prog_1_method_30_code
def yX5_deliver : MethodName := ⟨RX5, "deliver", "(LUnionList$Sent;)V"⟩
abbrev cX5_askNextHome : ByteArray := prog_1_method_31_code
def yX5_askNextHome : MethodName := ⟨RX5, "askNextHome", "(LUnionList$Request;)V"⟩
abbrev cX5_nearestListedFree : ByteArray := prog_1_method_32_code
def yX5_nearestListedFree : MethodName := ⟨RX5, "nearestListedFree", "(LUnionList$Request;)LUnionList$Copy;"⟩
abbrev cX5_answerQuestion : ByteArray := prog_1_method_33_code
def yX5_answerQuestion : MethodName := ⟨RX5, "answerQuestion", "(LUnionList$Copy;LUnionList$Request;)V"⟩
abbrev cX5_beginLoan : ByteArray := prog_1_method_34_code
def yX5_beginLoan : MethodName := ⟨RX5, "beginLoan", "(LUnionList$Copy;LUnionList$Request;)V"⟩
abbrev cX5_prolong : ByteArray := prog_1_method_35_code
def yX5_prolong : MethodName := ⟨RX5, "prolong", "(LUnionList$Request;)V"⟩
abbrev cX5_shorten : ByteArray := prog_1_method_36_code
def yX5_shorten : MethodName := ⟨RX5, "shorten", "(LUnionList$Request;)V"⟩
abbrev cX5_comeHome : ByteArray := prog_1_method_37_code
def yX5_comeHome : MethodName := ⟨RX5, "comeHome", "(LUnionList$Copy;LUnionList$Request;)V"⟩
abbrev cX5_examine : ByteArray := prog_1_method_38_code
def yX5_examine : MethodName := ⟨RX5, "examine", "(LUnionList$Copy;)I"⟩
def RX6 : String := "UnionListModel"
def TX6 : u_T := fun k => match k with
  | 0 => ("UnionListModel", "home", "[I", true)
  | 1 => ("UnionListModel", "title", "[I", true)
  | 2 => ("UnionListModel", "place", "[I", true)
  | 3 => ("UnionListModel", "hands", "[I", true)
  | 4 => ("UnionListModel", "knows", "[I", true)
  | 5 => ("UnionListModel", "harmed", "[I", true)
  | 6 => ("UnionListModel", "seen", "[I", true)
  | 7 => ("UnionListModel", "copies", "I", false)
  | 8 => ("UnionListModel", "whose", "[I", true)
  | 9 => ("UnionListModel", "wanted", "[I", true)
  | 10 => ("UnionListModel", "stage", "[I", true)
  | 11 => ("UnionListModel", "loaned", "[I", true)
  | 12 => ("UnionListModel", "until", "[I", true)
  | 13 => ("UnionListModel", "asked", "[I", true)
  | 14 => ("UnionListModel", "called", "[I", true)
  | 15 => ("UnionListModel", "requests", "I", false)
  | 16 => ("UnionListModel", "kind", "[I", true)
  | 17 => ("UnionListModel", "what", "[I", true)
  | 18 => ("UnionListModel", "day", "[I", true)
  | 19 => ("UnionListModel", "under", "I", false)
  | 20 => ("UnionListModel", "debt", "[I", true)
  | 21 => ("UnionListModel", "spared", "[I", true)
  | 22 => ("UnionListModel", "now", "I", false)
  | _ => ("UnionListModel", "thrown", "I", false)
def tyX6 : Nat → FieldType := fun k => match k with
  | 0 => .array .int
  | 1 => .array .int
  | 2 => .array .int
  | 3 => .array .int
  | 4 => .array .int
  | 5 => .array .int
  | 6 => .array .int
  | 7 => .int
  | 8 => .array .int
  | 9 => .array .int
  | 10 => .array .int
  | 11 => .array .int
  | 12 => .array .int
  | 13 => .array .int
  | 14 => .array .int
  | 15 => .int
  | 16 => .array .int
  | 17 => .array .int
  | 18 => .array .int
  | 19 => .int
  | 20 => .array .int
  | 21 => .array .int
  | 22 => .int
  | _ => .int
abbrev wsX60 : List Cond := u_ws RX6 TX6 24
theorem nmX6 : ∀ a, a < 24 → ∀ b, b < 24 → a ≠ b → (TX6 a).2.1 ≠ (TX6 b).2.1 := by decide +kernel
theorem tyX6_ok : ∀ k, k < 24 → parseFieldDescriptor (TX6 k).2.2.1 = some (tyX6 k) := by decide +kernel
abbrev cX6_init : ByteArray := prog_8_method_1_code
def yX6_init : MethodName := ⟨RX6, "<init>", "()V"⟩
abbrev cX6_thrown : ByteArray := prog_8_method_2_code
def yX6_thrown : MethodName := ⟨RX6, "thrown", "()I"⟩
abbrev cX6_holds : ByteArray := prog_8_method_3_code
def yX6_holds : MethodName := ⟨RX6, "holds", "(I)Z"⟩
abbrev cX6_plain : ByteArray := prog_8_method_4_code
def yX6_plain : MethodName := ⟨RX6, "plain", "(I)I"⟩
abbrev cX6_between : ByteArray := prog_8_method_5_code
def yX6_between : MethodName := ⟨RX6, "between", "(III)Z"⟩
abbrev cX6_isHouse : ByteArray := prog_8_method_6_code
def yX6_isHouse : MethodName := ⟨RX6, "isHouse", "(I)Z"⟩
abbrev cX6_isCopy : ByteArray := prog_8_method_7_code
def yX6_isCopy : MethodName := ⟨RX6, "isCopy", "(I)Z"⟩
abbrev cX6_isRequest : ByteArray := prog_8_method_8_code
def yX6_isRequest : MethodName := ⟨RX6, "isRequest", "(I)Z"⟩
abbrev cX6_way : ByteArray := prog_8_method_9_code
def yX6_way : MethodName := ⟨RX6, "way", "(II)I"⟩
abbrev cX6_send : ByteArray := prog_8_method_10_code
def yX6_send : MethodName := ⟨RX6, "send", "(III)I"⟩
abbrev cX6_owe : ByteArray := prog_8_method_11_code
def yX6_owe : MethodName := ⟨RX6, "owe", "(III)V"⟩
abbrev cX6_free : ByteArray := prog_8_method_12_code
def yX6_free : MethodName := ⟨RX6, "free", "(I)Z"⟩
abbrev cX6_tell : ByteArray := prog_8_method_13_code
def yX6_tell : MethodName := ⟨RX6, "tell", "(II)V"⟩
abbrev cX6_addCopy : ByteArray := prog_8_method_14_code
def yX6_addCopy : MethodName := ⟨RX6, "addCopy", "(II)I"⟩
abbrev cX6_inHandsOf : ByteArray := prog_8_method_15_code
def yX6_inHandsOf : MethodName := ⟨RX6, "inHandsOf", "(I)I"⟩
abbrev cX6_isFree : ByteArray := prog_8_method_16_code
def yX6_isFree : MethodName := ⟨RX6, "isFree", "(I)Z"⟩
abbrev cX6_listed : ByteArray := prog_8_method_17_code
def yX6_listed : MethodName := ⟨RX6, "listed", "(I)I"⟩
abbrev cX6_harm : ByteArray := prog_8_method_18_code
def yX6_harm : MethodName := ⟨RX6, "harm", "(I)I"⟩
abbrev cX6_find : ByteArray := prog_8_method_19_code
def yX6_find : MethodName := ⟨RX6, "find", "(I)I"⟩
abbrev cX6_look : ByteArray := prog_8_method_20_code
def yX6_look : MethodName := ⟨RX6, "look", "(I)I"⟩
abbrev cX6_mend : ByteArray := prog_8_method_21_code
def yX6_mend : MethodName := ⟨RX6, "mend", "(I)V"⟩
abbrev cX6_ask : ByteArray := prog_8_method_22_code
def yX6_ask : MethodName := ⟨RX6, "ask", "(I)V"⟩
abbrev cX6_request : ByteArray := prog_8_method_23_code
def yX6_request : MethodName := ⟨RX6, "request", "(II)I"⟩
abbrev cX6_state : ByteArray := prog_8_method_24_code
def yX6_state : MethodName := ⟨RX6, "state", "(I)I"⟩
abbrev cX6_copyOf : ByteArray := prog_8_method_25_code
def yX6_copyOf : MethodName := ⟨RX6, "copyOf", "(I)I"⟩
abbrev cX6_refuses : ByteArray := prog_8_method_26_code
def yX6_refuses : MethodName := ⟨RX6, "refuses", "(I)I"⟩
abbrev cX6_due : ByteArray := prog_8_method_27_code
def yX6_due : MethodName := ⟨RX6, "due", "(I)I"⟩
abbrev cX6_length : ByteArray := prog_8_method_28_code
def yX6_length : MethodName := ⟨RX6, "length", "(I)I"⟩
abbrev cX6_renew : ByteArray := prog_8_method_29_code
def yX6_renew : MethodName := ⟨RX6, "renew", "(I)I"⟩
abbrev cX6_recall : ByteArray := prog_8_method_30_code
def yX6_recall : MethodName := ⟨RX6, "recall", "(I)I"⟩
abbrev cX6_sendBack : ByteArray := prog_8_method_31_code
def yX6_sendBack : MethodName := ⟨RX6, "sendBack", "(I)I"⟩
abbrev cX6_homes : ByteArray := prog_8_method_32_code
def yX6_homes : MethodName := ⟨RX6, "homes", "(I)I"⟩
abbrev cX6_answer : ByteArray := prog_8_method_33_code
def yX6_answer : MethodName := ⟨RX6, "answer", "(I)V"⟩
abbrev cX6_come : ByteArray := prog_8_method_34_code
def yX6_come : MethodName := ⟨RX6, "come", "(I)V"⟩
abbrev cX6_arrive : ByteArray := prog_8_method_35_code
def yX6_arrive : MethodName := ⟨RX6, "arrive", "(II)V"⟩
abbrev cX6_arriveAll : ByteArray := prog_8_method_36_code
def yX6_arriveAll : MethodName := ⟨RX6, "arriveAll", "()I"⟩
abbrev cX6_pass : ByteArray := prog_8_method_37_code
def yX6_pass : MethodName := ⟨RX6, "pass", "(I)I"⟩
abbrev cX6_today : ByteArray := prog_8_method_38_code
def yX6_today : MethodName := ⟨RX6, "today", "()I"⟩
abbrev cX6_owes : ByteArray := prog_8_method_39_code
def yX6_owes : MethodName := ⟨RX6, "owes", "(II)I"⟩
abbrev cX6_settle : ByteArray := prog_8_method_40_code
def yX6_settle : MethodName := ⟨RX6, "settle", "()I"⟩
abbrev cX6_quota : ByteArray := prog_8_method_41_code
def yX6_quota : MethodName := ⟨RX6, "quota", "(I)I"⟩
def RJ9 : String := "java/lang/Math"
def TJ9 : u_T := fun k => match k with
  | _ => ("", "", "", false)
def tyJ9 : Nat → FieldType := fun k => match k with
  | _ => .int
abbrev wsJ90 : List Cond := u_ws RJ9 TJ9 0
theorem nmJ9 : ∀ a, a < 0 → ∀ b, b < 0 → a ≠ b → (TJ9 a).2.1 ≠ (TJ9 b).2.1 := by decide +kernel
theorem tyJ9_ok : ∀ k, k < 0 → parseFieldDescriptor (TJ9 k).2.2.1 = some (tyJ9 k) := by decide +kernel
abbrev cJ9_abs_0f7a4 : ByteArray := prog_13_method_59_code
def yJ9_abs_0f7a4 : MethodName := ⟨RJ9, "abs", "(I)I"⟩
abbrev cJ9_max_7cf53 : ByteArray := prog_13_method_65_code
def yJ9_max_7cf53 : MethodName := ⟨RJ9, "max", "(II)I"⟩
abbrev cJ9_min_7cf53 : ByteArray := prog_13_method_69_code
def yJ9_min_7cf53 : MethodName := ⟨RJ9, "min", "(II)I"⟩
def RJ0 : String := "java/lang/String"
def TJ0 : u_T := fun k => match k with
  | _ => ("", "", "", false)
def tyJ0 : Nat → FieldType := fun k => match k with
  | _ => .int
abbrev wsJ00 : List Cond := u_ws RJ0 TJ0 0
theorem nmJ0 : ∀ a, a < 0 → ∀ b, b < 0 → a ≠ b → (TJ0 a).2.1 ≠ (TJ0 b).2.1 := by decide +kernel
theorem tyJ0_ok : ∀ k, k < 0 → parseFieldDescriptor (TJ0 k).2.2.1 = some (tyJ0 k) := by decide +kernel
def RL : String := "UnionListLaw"
abbrev cL_addCopy : ByteArray := method_3_code
def yL_addCopy : MethodName := ⟨RL, "addCopy", "(LUnionList;II[J)I"⟩
abbrev cL_inHandsOf : ByteArray := method_4_code
def yL_inHandsOf : MethodName := ⟨RL, "inHandsOf", "(LUnionList;I[J)I"⟩
abbrev cL_isFree : ByteArray := method_5_code
def yL_isFree : MethodName := ⟨RL, "isFree", "(LUnionList;I[J)I"⟩
abbrev cL_listed : ByteArray := method_6_code
def yL_listed : MethodName := ⟨RL, "listed", "(LUnionList;I[J)I"⟩
abbrev cL_harm : ByteArray := method_7_code
def yL_harm : MethodName := ⟨RL, "harm", "(LUnionList;I[J)I"⟩
abbrev cL_look : ByteArray := method_8_code
def yL_look : MethodName := ⟨RL, "look", "(LUnionList;I[J)I"⟩
abbrev cL_mend : ByteArray := method_9_code
def yL_mend : MethodName := ⟨RL, "mend", "(LUnionList;I)I"⟩
abbrev cL_request : ByteArray := method_10_code
def yL_request : MethodName := ⟨RL, "request", "(LUnionList;II[J)I"⟩
abbrev cL_state : ByteArray := method_11_code
def yL_state : MethodName := ⟨RL, "state", "(LUnionList;I[J)I"⟩
abbrev cL_copyOf : ByteArray := method_12_code
def yL_copyOf : MethodName := ⟨RL, "copyOf", "(LUnionList;I[J)I"⟩
abbrev cL_due : ByteArray := method_13_code
def yL_due : MethodName := ⟨RL, "due", "(LUnionList;I[J)I"⟩
abbrev cL_renew : ByteArray := method_14_code
def yL_renew : MethodName := ⟨RL, "renew", "(LUnionList;I[J)I"⟩
abbrev cL_recall : ByteArray := method_15_code
def yL_recall : MethodName := ⟨RL, "recall", "(LUnionList;I[J)I"⟩
abbrev cL_sendBack : ByteArray := method_16_code
def yL_sendBack : MethodName := ⟨RL, "sendBack", "(LUnionList;I[J)I"⟩
abbrev cL_pass : ByteArray := method_17_code
def yL_pass : MethodName := ⟨RL, "pass", "(LUnionList;I[J)I"⟩
abbrev cL_owes : ByteArray := method_18_code
def yL_owes : MethodName := ⟨RL, "owes", "(LUnionList;II[J)I"⟩
abbrev cL_quota : ByteArray := method_19_code
def yL_quota : MethodName := ⟨RL, "quota", "(LUnionList;I[J)I"⟩
abbrev cL_law : ByteArray := code
def yL_law : MethodName := ⟨RL, "law", "([I)Z"⟩
def wsX0_init : List Cond := .code yX0_init cX0_init 1 none :: ([.methodLink RX0 3 objectInit, .instanceMethod objectInit, .code objectInit ⟨#[0xb1]⟩ 1 none, .arrayClass .int, .fieldLink RX0 9 "UnionList$Accounts" "debts" "[I", .fieldLink RX0 15 "UnionList$Accounts" "homeCopies" "[I", .fieldLink RX0 18 "UnionList$Accounts" "freeLoans" "[I"] ++ wsX00)
def wsX5_isHouse : List Cond := .code yX5_isHouse cX5_isHouse 1 (some .boolean) :: ([])
def wsX0_countHomeCopy : List Cond := .code yX0_countHomeCopy cX0_countHomeCopy 2 none :: ([.fieldLink RX0 15 "UnionList$Accounts" "homeCopies" "[I", .static yX5_isHouse, .initialized RX5, .code yX5_isHouse cX5_isHouse 1 (some .boolean)] ++ wsX00)
def wsX0_beginQuarter : List Cond := .code yX0_beginQuarter cX0_beginQuarter 2 none :: ([.fieldLink RX0 18 "UnionList$Accounts" "freeLoans" "[I"] ++ wsX00)
def wsX0_freeLoansOf : List Cond := .code yX0_freeLoansOf cX0_freeLoansOf 2 (some .int) :: ([.fieldLink RX0 18 "UnionList$Accounts" "freeLoans" "[I", .static yX5_isHouse, .initialized RX5, .code yX5_isHouse cX5_isHouse 1 (some .boolean)] ++ wsX00)
def wsX0_charge : List Cond := .code yX0_charge cX0_charge 4 none :: ([.fieldLink RX0 9 "UnionList$Accounts" "debts" "[I", .static yX5_isHouse, .initialized RX5, .code yX5_isHouse cX5_isHouse 1 (some .boolean)] ++ wsX00)
def wsX0_chargeLoan : List Cond := .code yX0_chargeLoan cX0_chargeLoan 3 none :: ([.fieldLink RX0 15 "UnionList$Accounts" "homeCopies" "[I", .fieldLink RX0 18 "UnionList$Accounts" "freeLoans" "[I", .static yX5_isHouse, .initialized RX5, .code yX5_isHouse cX5_isHouse 1 (some .boolean), .methodLink RX0 25 yX0_charge, .instanceMethod yX0_charge, .selects RX0 yX0_charge yX0_charge, .initialized RX0, .code yX0_charge cX0_charge 4 none, .fieldLink RX0 9 "UnionList$Accounts" "debts" "[I"] ++ wsX00)
def wsX0_balance : List Cond := .code yX0_balance cX0_balance 3 (some .int) :: ([.fieldLink RX0 9 "UnionList$Accounts" "debts" "[I", .static yX5_isHouse, .initialized RX5, .code yX5_isHouse cX5_isHouse 1 (some .boolean)] ++ wsX00)
def wsX0_clearDebts : List Cond := .code yX0_clearDebts cX0_clearDebts 4 (some .int) :: ([.fieldLink RX0 9 "UnionList$Accounts" "debts" "[I", .methodLink RX0 29 yX0_balance, .instanceMethod yX0_balance, .selects RX0 yX0_balance yX0_balance, .initialized RX0, .code yX0_balance cX0_balance 3 (some .int), .static yX5_isHouse, .initialized RX5, .code yX5_isHouse cX5_isHouse 1 (some .boolean)] ++ wsX00)
def wsX1_init : List Cond := .code yX1_init cX1_init 4 none :: ([.methodLink RX1 3 objectInit, .instanceMethod objectInit, .code objectInit ⟨#[0xb1]⟩ 1 none, .fieldLink RX1 9 "UnionList$Copy" "number" "I", .fieldLink RX1 15 "UnionList$Copy" "home" "I", .fieldLink RX1 18 "UnionList$Copy" "title" "I", .fieldLink RX1 21 "UnionList$Copy" "holder" "I", .fieldLink RX1 24 "UnionList$Copy" "onItsWay" "Z", .fieldLink RX1 28 "UnionList$Copy" "knownToList" "I", .fieldLink RX1 31 "UnionList$Copy" "harmedBy" "I", .fieldLink RX1 34 "UnionList$Copy" "harmKnown" "Z"] ++ wsX10)
def wsX1_isAtHome : List Cond := .code yX1_isAtHome cX1_isAtHome 1 (some .boolean) :: ([.fieldLink RX1 21 "UnionList$Copy" "holder" "I", .fieldLink RX1 15 "UnionList$Copy" "home" "I", .fieldLink RX1 24 "UnionList$Copy" "onItsWay" "Z"] ++ wsX10)
def wsX1_isHarmed : List Cond := .code yX1_isHarmed cX1_isHarmed 1 (some .boolean) :: ([.fieldLink RX1 31 "UnionList$Copy" "harmedBy" "I"] ++ wsX10)
def wsX1_canBeSent : List Cond := .code yX1_canBeSent cX1_canBeSent 1 (some .boolean) :: ([.fieldLink RX1 34 "UnionList$Copy" "harmKnown" "Z", .methodLink RX1 37 yX1_isAtHome, .instanceMethod yX1_isAtHome, .selects RX1 yX1_isAtHome yX1_isAtHome, .initialized RX1, .code yX1_isAtHome cX1_isAtHome 1 (some .boolean), .fieldLink RX1 21 "UnionList$Copy" "holder" "I", .fieldLink RX1 15 "UnionList$Copy" "home" "I", .fieldLink RX1 24 "UnionList$Copy" "onItsWay" "Z"] ++ wsX10)
def wsX2_init : List Cond := .code yX2_init cX2_init 2 none :: ([.methodLink RX2 1 objectInit, .instanceMethod objectInit, .code objectInit ⟨#[0xb1]⟩ 1 none, .methodLink RX2 7 Lib.Math.max.name, .static Lib.Math.max.name, .initialized "java/lang/Math", .code Lib.Math.max.name Lib.Math.max.code 2 (some .int), .classLink RX2 13 RX4, .fieldLink RX2 15 "UnionList$Post" "waiting" "[LUnionList$Sent;", .fieldLink RX2 21 "UnionList$Post" "size" "I"] ++ wsX20)
def wsX2_put : List Cond := .code yX2_put cX2_put 4 none :: ([.fieldLink RX2 21 "UnionList$Post" "size" "I", .fieldLink RX2 15 "UnionList$Post" "waiting" "[LUnionList$Sent;", .fieldLink RX2 25 "UnionList$Sent" "arrival" "I"] ++ wsX20 ++ wsX40)
def wsX2_takeArrived : List Cond := .code yX2_takeArrived cX2_takeArrived 4 (some (.object "UnionList$Sent")) :: ([.fieldLink RX2 21 "UnionList$Post" "size" "I", .fieldLink RX2 15 "UnionList$Post" "waiting" "[LUnionList$Sent;", .fieldLink RX2 25 "UnionList$Sent" "arrival" "I"] ++ wsX20 ++ wsX40)
def wsX3_init : List Cond := .code yX3_init cX3_init 3 none :: ([.methodLink RX3 3 objectInit, .instanceMethod objectInit, .code objectInit ⟨#[0xb1]⟩ 1 none, .fieldLink RX3 9 "UnionList$Request" "house" "I", .fieldLink RX3 15 "UnionList$Request" "title" "I", .fieldLink RX3 18 "UnionList$Request" "copy" "LUnionList$Copy;", .fieldLink RX3 22 "UnionList$Request" "state" "I", .fieldLink RX3 25 "UnionList$Request" "dueDay" "I", .fieldLink RX3 28 "UnionList$Request" "recallSent" "Z", .fieldLink RX3 32 "UnionList$Request" "askedHomes" "I"] ++ wsX30)
def wsX3_markAsked : List Cond := .code yX3_markAsked cX3_markAsked 2 none :: ([.fieldLink RX3 32 "UnionList$Request" "askedHomes" "I"] ++ wsX30)
def wsX3_mayAskFor : List Cond := .code yX3_mayAskFor cX3_mayAskFor 3 (some .boolean) :: ([.fieldLink RX3 32 "UnionList$Request" "askedHomes" "I", .fieldLink RX3 35 "UnionList$Copy" "home" "I", .fieldLink RX3 40 "UnionList$Copy" "title" "I", .fieldLink RX3 15 "UnionList$Request" "title" "I", .fieldLink RX3 41 "UnionList$Copy" "knownToList" "I", .fieldLink RX3 9 "UnionList$Request" "house" "I"] ++ wsX30 ++ wsX10)
def wsX4_init : List Cond := .code yX4_init cX4_init 5 none :: ([.methodLink RX4 1 objectInit, .instanceMethod objectInit, .code objectInit ⟨#[0xb1]⟩ 1 none, .fieldLink RX4 7 "UnionList$Sent" "kind" "I", .fieldLink RX4 13 "UnionList$Sent" "arrival" "I", .fieldLink RX4 16 "UnionList$Sent" "copy" "LUnionList$Copy;", .fieldLink RX4 20 "UnionList$Sent" "request" "LUnionList$Request;"] ++ wsX40)
def wsX5_init_r1 : List Cond := [Cond.methodLink RX5 1 objectInit, Cond.instanceMethod objectInit, Cond.code objectInit ⟨#[0xb1]⟩ 1 none, Cond.classLink RX5 9 RX1, Cond.fieldLink RX5 11 "UnionList" "copies" "[LUnionList$Copy;", Cond.classLink RX5 15 RX3, Cond.fieldLink RX5 17 "UnionList" "requests" "[LUnionList$Request;", Cond.classLink RX5 21 RX2, Cond.instantiable RX2 2, Cond.initialized RX2, Cond.fieldLink RX5 26 "UnionList" "post" "LUnionList$Post;", Cond.classLink RX5 30 RX0, Cond.instantiable RX0 3, Cond.initialized RX0, Cond.fieldLink RX5 33 "UnionList" "accounts" "LUnionList$Accounts;", Cond.fieldLink RX5 37 "UnionList" "copyCount" "I", Cond.fieldLink RX5 41 "UnionList" "requestCount" "I", Cond.fieldLink RX5 44 "UnionList" "day" "I", Cond.methodLink RX5 23 yX2_init, Cond.instanceMethod yX2_init, Cond.code yX2_init cX2_init 2 none, Cond.methodLink RX2 1 objectInit, Cond.methodLink RX2 7 Lib.Math.max.name, Cond.static Lib.Math.max.name]
def wsX5_init_r2 : List Cond := [Cond.initialized "java/lang/Math", Cond.code Lib.Math.max.name Lib.Math.max.code 2 (some .int), Cond.classLink RX2 13 RX4, Cond.fieldLink RX2 15 "UnionList$Post" "waiting" "[LUnionList$Sent;", Cond.fieldLink RX2 21 "UnionList$Post" "size" "I", Cond.methodLink RX5 32 yX0_init, Cond.instanceMethod yX0_init, Cond.code yX0_init cX0_init 1 none, Cond.methodLink RX0 3 objectInit, Cond.arrayClass .int, Cond.fieldLink RX0 9 "UnionList$Accounts" "debts" "[I", Cond.fieldLink RX0 15 "UnionList$Accounts" "homeCopies" "[I", Cond.fieldLink RX0 18 "UnionList$Accounts" "freeLoans" "[I"]
def wsX5_init : List Cond := .code yX5_init cX5_init 1 none :: ((wsX5_init_r1 ++ wsX5_init_r2) ++ wsX50 ++ wsX20 ++ wsX00)
def wsX5_isTitle : List Cond := .code yX5_isTitle cX5_isTitle 1 (some .boolean) :: ([])
def wsX5_wayToList : List Cond := .code yX5_wayToList cX5_wayToList 1 (some .int) :: ([])
def wsX5_send : List Cond := .code yX5_send cX5_send 6 (some .int) :: ([.fieldLink RX5 44 "UnionList" "day" "I", .fieldLink RX5 26 "UnionList" "post" "LUnionList$Post;", .classLink RX5 203 RX4, .instantiable RX4 4, .initialized RX4, .methodLink RX5 205 yX4_init, .instanceMethod yX4_init, .code yX4_init cX4_init 5 none, .methodLink RX4 1 objectInit, .instanceMethod objectInit, .code objectInit ⟨#[0xb1]⟩ 1 none, .fieldLink RX4 7 "UnionList$Sent" "kind" "I", .fieldLink RX4 13 "UnionList$Sent" "arrival" "I", .fieldLink RX4 16 "UnionList$Sent" "copy" "LUnionList$Copy;", .fieldLink RX4 20 "UnionList$Sent" "request" "LUnionList$Request;", .methodLink RX5 208 yX2_put, .instanceMethod yX2_put, .selects RX2 yX2_put yX2_put, .initialized RX2, .code yX2_put cX2_put 4 none, .fieldLink RX2 21 "UnionList$Post" "size" "I", .fieldLink RX2 15 "UnionList$Post" "waiting" "[LUnionList$Sent;", .fieldLink RX2 25 "UnionList$Sent" "arrival" "I"] ++ wsX50 ++ wsX40 ++ wsX20)
def wsX5_sendNews_r1 : List Cond := [Cond.fieldLink RX5 149 "UnionList$Copy" "home" "I", Cond.methodLink RX5 212 yX5_wayToList, Cond.static yX5_wayToList, Cond.initialized RX5, Cond.code yX5_wayToList cX5_wayToList 1 (some .int), Cond.methodLink RX5 156 yX5_send, Cond.instanceMethod yX5_send, Cond.selects RX5 yX5_send yX5_send, Cond.code yX5_send cX5_send 6 (some .int), Cond.fieldLink RX5 44 "UnionList" "day" "I", Cond.fieldLink RX5 26 "UnionList" "post" "LUnionList$Post;", Cond.classLink RX5 203 RX4, Cond.instantiable RX4 4, Cond.initialized RX4, Cond.methodLink RX5 205 yX4_init, Cond.instanceMethod yX4_init, Cond.code yX4_init cX4_init 5 none, Cond.methodLink RX4 1 objectInit, Cond.instanceMethod objectInit, Cond.code objectInit ⟨#[0xb1]⟩ 1 none, Cond.fieldLink RX4 7 "UnionList$Sent" "kind" "I", Cond.fieldLink RX4 13 "UnionList$Sent" "arrival" "I", Cond.fieldLink RX4 16 "UnionList$Sent" "copy" "LUnionList$Copy;", Cond.fieldLink RX4 20 "UnionList$Sent" "request" "LUnionList$Request;"]
def wsX5_sendNews_r2 : List Cond := [Cond.methodLink RX5 208 yX2_put, Cond.instanceMethod yX2_put, Cond.selects RX2 yX2_put yX2_put, Cond.initialized RX2, Cond.code yX2_put cX2_put 4 none, Cond.fieldLink RX2 21 "UnionList$Post" "size" "I", Cond.fieldLink RX2 15 "UnionList$Post" "waiting" "[LUnionList$Sent;", Cond.fieldLink RX2 25 "UnionList$Sent" "arrival" "I"]
def wsX5_sendNews : List Cond := .code yX5_sendNews cX5_sendNews 3 none :: ((wsX5_sendNews_r1 ++ wsX5_sendNews_r2) ++ wsX10 ++ wsX50 ++ wsX40 ++ wsX20)
def wsX5_addCopy_r1 : List Cond := [Cond.classLink RX5 54 "java/lang/IllegalArgumentException", Cond.initialized "java/lang/IllegalArgumentException", Cond.classLink RX5 61 "java/lang/IllegalStateException", Cond.initialized "java/lang/IllegalStateException", Cond.fieldLink RX5 37 "UnionList" "copyCount" "I", Cond.fieldLink RX5 11 "UnionList" "copies" "[LUnionList$Copy;", Cond.classLink RX5 9 RX1, Cond.instantiable RX1 8, Cond.initialized RX1, Cond.fieldLink RX5 33 "UnionList" "accounts" "LUnionList$Accounts;", Cond.methodLink RX5 47 yX5_isHouse, Cond.static yX5_isHouse, Cond.initialized RX5, Cond.code yX5_isHouse cX5_isHouse 1 (some .boolean), Cond.methodLink RX5 51 yX5_isTitle, Cond.static yX5_isTitle, Cond.code yX5_isTitle cX5_isTitle 1 (some .boolean), Cond.methodLink RX5 66 yX1_init, Cond.instanceMethod yX1_init, Cond.code yX1_init cX1_init 4 none, Cond.methodLink RX1 3 objectInit, Cond.instanceMethod objectInit, Cond.code objectInit ⟨#[0xb1]⟩ 1 none, Cond.fieldLink RX1 9 "UnionList$Copy" "number" "I"]
def wsX5_addCopy_r2 : List Cond := [Cond.fieldLink RX1 15 "UnionList$Copy" "home" "I", Cond.fieldLink RX1 18 "UnionList$Copy" "title" "I", Cond.fieldLink RX1 21 "UnionList$Copy" "holder" "I", Cond.fieldLink RX1 24 "UnionList$Copy" "onItsWay" "Z", Cond.fieldLink RX1 28 "UnionList$Copy" "knownToList" "I", Cond.fieldLink RX1 31 "UnionList$Copy" "harmedBy" "I", Cond.fieldLink RX1 34 "UnionList$Copy" "harmKnown" "Z", Cond.methodLink RX5 69 yX0_countHomeCopy, Cond.instanceMethod yX0_countHomeCopy, Cond.selects RX0 yX0_countHomeCopy yX0_countHomeCopy, Cond.initialized RX0, Cond.code yX0_countHomeCopy cX0_countHomeCopy 2 none, Cond.fieldLink RX0 15 "UnionList$Accounts" "homeCopies" "[I", Cond.methodLink RX5 72 yX5_sendNews, Cond.instanceMethod yX5_sendNews, Cond.selects RX5 yX5_sendNews yX5_sendNews, Cond.code yX5_sendNews cX5_sendNews 3 none, Cond.fieldLink RX5 149 "UnionList$Copy" "home" "I", Cond.methodLink RX5 212 yX5_wayToList, Cond.static yX5_wayToList, Cond.code yX5_wayToList cX5_wayToList 1 (some .int), Cond.methodLink RX5 156 yX5_send, Cond.instanceMethod yX5_send, Cond.selects RX5 yX5_send yX5_send]
def wsX5_addCopy_r3 : List Cond := [Cond.code yX5_send cX5_send 6 (some .int), Cond.fieldLink RX5 44 "UnionList" "day" "I", Cond.fieldLink RX5 26 "UnionList" "post" "LUnionList$Post;", Cond.classLink RX5 203 RX4, Cond.instantiable RX4 4, Cond.initialized RX4, Cond.methodLink RX5 205 yX4_init, Cond.instanceMethod yX4_init, Cond.code yX4_init cX4_init 5 none, Cond.methodLink RX4 1 objectInit, Cond.fieldLink RX4 7 "UnionList$Sent" "kind" "I", Cond.fieldLink RX4 13 "UnionList$Sent" "arrival" "I", Cond.fieldLink RX4 16 "UnionList$Sent" "copy" "LUnionList$Copy;", Cond.fieldLink RX4 20 "UnionList$Sent" "request" "LUnionList$Request;", Cond.methodLink RX5 208 yX2_put, Cond.instanceMethod yX2_put, Cond.selects RX2 yX2_put yX2_put, Cond.initialized RX2, Cond.code yX2_put cX2_put 4 none, Cond.fieldLink RX2 21 "UnionList$Post" "size" "I", Cond.fieldLink RX2 15 "UnionList$Post" "waiting" "[LUnionList$Sent;", Cond.fieldLink RX2 25 "UnionList$Sent" "arrival" "I"]
def wsX5_addCopy : List Cond := .code yX5_addCopy cX5_addCopy 5 (some .int) :: ((wsX5_addCopy_r1 ++ (wsX5_addCopy_r2 ++ wsX5_addCopy_r3)) ++ wsX50 ++ wsX10 ++ wsX00 ++ wsX40 ++ wsX20 ++ (vx_atS RX5 58 "java/lang/IllegalArgumentException" ["java/lang/RuntimeException", "java/lang/Exception"]).filter goodWord ++ (vx_atS RX5 65 "java/lang/IllegalStateException" ["java/lang/RuntimeException", "java/lang/Exception"]).filter goodWord)
def wsX5_copyNumbered : List Cond := .code yX5_copyNumbered cX5_copyNumbered 3 (some (.object "UnionList$Copy")) :: ([.classLink RX5 193 "java/lang/IndexOutOfBoundsException", .initialized "java/lang/IndexOutOfBoundsException", .fieldLink RX5 11 "UnionList" "copies" "[LUnionList$Copy;"] ++ wsX50 ++ (vx_atS RX5 197 "java/lang/IndexOutOfBoundsException" ["java/lang/RuntimeException", "java/lang/Exception"]).filter goodWord)
def wsX5_inHandsOf : List Cond := .code yX5_inHandsOf cX5_inHandsOf 2 (some .int) :: ([.fieldLink RX5 80 "UnionList$Copy" "holder" "I", .methodLink RX5 76 yX5_copyNumbered, .instanceMethod yX5_copyNumbered, .selects RX5 yX5_copyNumbered yX5_copyNumbered, .initialized RX5, .code yX5_copyNumbered cX5_copyNumbered 3 (some (.object "UnionList$Copy")), .classLink RX5 193 "java/lang/IndexOutOfBoundsException", .initialized "java/lang/IndexOutOfBoundsException", .fieldLink RX5 11 "UnionList" "copies" "[LUnionList$Copy;"] ++ wsX10 ++ wsX50 ++ (vx_atS RX5 197 "java/lang/IndexOutOfBoundsException" ["java/lang/RuntimeException", "java/lang/Exception"]).filter goodWord)
def wsX5_isFree : List Cond := .code yX5_isFree cX5_isFree 2 (some .boolean) :: ([.methodLink RX5 76 yX5_copyNumbered, .instanceMethod yX5_copyNumbered, .selects RX5 yX5_copyNumbered yX5_copyNumbered, .initialized RX5, .code yX5_copyNumbered cX5_copyNumbered 3 (some (.object "UnionList$Copy")), .classLink RX5 193 "java/lang/IndexOutOfBoundsException", .initialized "java/lang/IndexOutOfBoundsException", .fieldLink RX5 11 "UnionList" "copies" "[LUnionList$Copy;", .methodLink RX5 83 yX1_canBeSent, .instanceMethod yX1_canBeSent, .selects RX1 yX1_canBeSent yX1_canBeSent, .initialized RX1, .code yX1_canBeSent cX1_canBeSent 1 (some .boolean), .fieldLink RX1 34 "UnionList$Copy" "harmKnown" "Z", .methodLink RX1 37 yX1_isAtHome, .instanceMethod yX1_isAtHome, .selects RX1 yX1_isAtHome yX1_isAtHome, .code yX1_isAtHome cX1_isAtHome 1 (some .boolean), .fieldLink RX1 21 "UnionList$Copy" "holder" "I", .fieldLink RX1 15 "UnionList$Copy" "home" "I", .fieldLink RX1 24 "UnionList$Copy" "onItsWay" "Z"] ++ wsX50 ++ wsX10 ++ (vx_atS RX5 197 "java/lang/IndexOutOfBoundsException" ["java/lang/RuntimeException", "java/lang/Exception"]).filter goodWord)
def wsX5_listed : List Cond := .code yX5_listed cX5_listed 2 (some .int) :: ([.fieldLink RX5 87 "UnionList$Copy" "knownToList" "I", .methodLink RX5 76 yX5_copyNumbered, .instanceMethod yX5_copyNumbered, .selects RX5 yX5_copyNumbered yX5_copyNumbered, .initialized RX5, .code yX5_copyNumbered cX5_copyNumbered 3 (some (.object "UnionList$Copy")), .classLink RX5 193 "java/lang/IndexOutOfBoundsException", .initialized "java/lang/IndexOutOfBoundsException", .fieldLink RX5 11 "UnionList" "copies" "[LUnionList$Copy;"] ++ wsX10 ++ wsX50 ++ (vx_atS RX5 197 "java/lang/IndexOutOfBoundsException" ["java/lang/RuntimeException", "java/lang/Exception"]).filter goodWord)
def wsX5_harm : List Cond := .code yX5_harm cX5_harm 3 (some .int) :: ([.classLink RX5 61 "java/lang/IllegalStateException", .initialized "java/lang/IllegalStateException", .fieldLink RX5 80 "UnionList$Copy" "holder" "I", .fieldLink RX5 95 "UnionList$Copy" "harmedBy" "I", .methodLink RX5 76 yX5_copyNumbered, .instanceMethod yX5_copyNumbered, .selects RX5 yX5_copyNumbered yX5_copyNumbered, .initialized RX5, .code yX5_copyNumbered cX5_copyNumbered 3 (some (.object "UnionList$Copy")), .classLink RX5 193 "java/lang/IndexOutOfBoundsException", .initialized "java/lang/IndexOutOfBoundsException", .fieldLink RX5 11 "UnionList" "copies" "[LUnionList$Copy;", .methodLink RX5 90 yX1_isHarmed, .instanceMethod yX1_isHarmed, .selects RX1 yX1_isHarmed yX1_isHarmed, .initialized RX1, .code yX1_isHarmed cX1_isHarmed 1 (some .boolean), .fieldLink RX1 31 "UnionList$Copy" "harmedBy" "I"] ++ wsX10 ++ wsX50 ++ (vx_atS RX5 65 "java/lang/IllegalStateException" ["java/lang/RuntimeException", "java/lang/Exception"]).filter goodWord ++ (vx_atS RX5 197 "java/lang/IndexOutOfBoundsException" ["java/lang/RuntimeException", "java/lang/Exception"]).filter goodWord)
def wsX5_examine : List Cond := .code yX5_examine cX5_examine 2 (some .int) :: ([.fieldLink RX5 111 "UnionList$Copy" "harmKnown" "Z", .fieldLink RX5 95 "UnionList$Copy" "harmedBy" "I", .fieldLink RX5 149 "UnionList$Copy" "home" "I", .fieldLink RX5 33 "UnionList" "accounts" "LUnionList$Accounts;", .methodLink RX5 90 yX1_isHarmed, .instanceMethod yX1_isHarmed, .selects RX1 yX1_isHarmed yX1_isHarmed, .initialized RX1, .code yX1_isHarmed cX1_isHarmed 1 (some .boolean), .fieldLink RX1 31 "UnionList$Copy" "harmedBy" "I", .methodLink RX5 170 yX0_charge, .instanceMethod yX0_charge, .selects RX0 yX0_charge yX0_charge, .initialized RX0, .code yX0_charge cX0_charge 4 none, .fieldLink RX0 9 "UnionList$Accounts" "debts" "[I", .static yX5_isHouse, .initialized RX5, .code yX5_isHouse cX5_isHouse 1 (some .boolean)] ++ wsX10 ++ wsX50 ++ wsX00)
def wsX5_look_r1 : List Cond := [Cond.classLink RX5 61 "java/lang/IllegalStateException", Cond.initialized "java/lang/IllegalStateException", Cond.fieldLink RX5 98 "UnionList$Copy" "onItsWay" "Z", Cond.methodLink RX5 76 yX5_copyNumbered, Cond.instanceMethod yX5_copyNumbered, Cond.selects RX5 yX5_copyNumbered yX5_copyNumbered, Cond.initialized RX5, Cond.code yX5_copyNumbered cX5_copyNumbered 3 (some (.object "UnionList$Copy")), Cond.classLink RX5 193 "java/lang/IndexOutOfBoundsException", Cond.initialized "java/lang/IndexOutOfBoundsException", Cond.fieldLink RX5 11 "UnionList" "copies" "[LUnionList$Copy;", Cond.methodLink RX5 104 yX5_examine, Cond.instanceMethod yX5_examine, Cond.selects RX5 yX5_examine yX5_examine, Cond.code yX5_examine cX5_examine 2 (some .int), Cond.fieldLink RX5 111 "UnionList$Copy" "harmKnown" "Z", Cond.fieldLink RX5 95 "UnionList$Copy" "harmedBy" "I", Cond.fieldLink RX5 149 "UnionList$Copy" "home" "I", Cond.fieldLink RX5 33 "UnionList" "accounts" "LUnionList$Accounts;", Cond.methodLink RX5 90 yX1_isHarmed, Cond.instanceMethod yX1_isHarmed, Cond.selects RX1 yX1_isHarmed yX1_isHarmed, Cond.initialized RX1, Cond.code yX1_isHarmed cX1_isHarmed 1 (some .boolean)]
def wsX5_look_r2 : List Cond := [Cond.fieldLink RX1 31 "UnionList$Copy" "harmedBy" "I", Cond.methodLink RX5 170 yX0_charge, Cond.instanceMethod yX0_charge, Cond.selects RX0 yX0_charge yX0_charge, Cond.initialized RX0, Cond.code yX0_charge cX0_charge 4 none, Cond.fieldLink RX0 9 "UnionList$Accounts" "debts" "[I", Cond.static yX5_isHouse, Cond.code yX5_isHouse cX5_isHouse 1 (some .boolean)]
def wsX5_look : List Cond := .code yX5_look cX5_look 3 (some .int) :: ((wsX5_look_r1 ++ wsX5_look_r2) ++ wsX10 ++ wsX50 ++ wsX00 ++ (vx_atS RX5 65 "java/lang/IllegalStateException" ["java/lang/RuntimeException", "java/lang/Exception"]).filter goodWord ++ (vx_atS RX5 197 "java/lang/IndexOutOfBoundsException" ["java/lang/RuntimeException", "java/lang/Exception"]).filter goodWord)
def wsX5_mend_r1 : List Cond := [Cond.classLink RX5 61 "java/lang/IllegalStateException", Cond.initialized "java/lang/IllegalStateException", Cond.fieldLink RX5 111 "UnionList$Copy" "harmKnown" "Z", Cond.fieldLink RX5 95 "UnionList$Copy" "harmedBy" "I", Cond.methodLink RX5 76 yX5_copyNumbered, Cond.instanceMethod yX5_copyNumbered, Cond.selects RX5 yX5_copyNumbered yX5_copyNumbered, Cond.initialized RX5, Cond.code yX5_copyNumbered cX5_copyNumbered 3 (some (.object "UnionList$Copy")), Cond.classLink RX5 193 "java/lang/IndexOutOfBoundsException", Cond.initialized "java/lang/IndexOutOfBoundsException", Cond.fieldLink RX5 11 "UnionList" "copies" "[LUnionList$Copy;", Cond.methodLink RX5 108 yX1_isAtHome, Cond.instanceMethod yX1_isAtHome, Cond.selects RX1 yX1_isAtHome yX1_isAtHome, Cond.initialized RX1, Cond.code yX1_isAtHome cX1_isAtHome 1 (some .boolean), Cond.fieldLink RX1 21 "UnionList$Copy" "holder" "I", Cond.fieldLink RX1 15 "UnionList$Copy" "home" "I", Cond.fieldLink RX1 24 "UnionList$Copy" "onItsWay" "Z", Cond.methodLink RX5 72 yX5_sendNews, Cond.instanceMethod yX5_sendNews, Cond.selects RX5 yX5_sendNews yX5_sendNews, Cond.code yX5_sendNews cX5_sendNews 3 none]
def wsX5_mend_r2 : List Cond := [Cond.fieldLink RX5 149 "UnionList$Copy" "home" "I", Cond.methodLink RX5 212 yX5_wayToList, Cond.static yX5_wayToList, Cond.code yX5_wayToList cX5_wayToList 1 (some .int), Cond.methodLink RX5 156 yX5_send, Cond.instanceMethod yX5_send, Cond.selects RX5 yX5_send yX5_send, Cond.code yX5_send cX5_send 6 (some .int), Cond.fieldLink RX5 44 "UnionList" "day" "I", Cond.fieldLink RX5 26 "UnionList" "post" "LUnionList$Post;", Cond.classLink RX5 203 RX4, Cond.instantiable RX4 4, Cond.initialized RX4, Cond.methodLink RX5 205 yX4_init, Cond.instanceMethod yX4_init, Cond.code yX4_init cX4_init 5 none, Cond.methodLink RX4 1 objectInit, Cond.instanceMethod objectInit, Cond.code objectInit ⟨#[0xb1]⟩ 1 none, Cond.fieldLink RX4 7 "UnionList$Sent" "kind" "I", Cond.fieldLink RX4 13 "UnionList$Sent" "arrival" "I", Cond.fieldLink RX4 16 "UnionList$Sent" "copy" "LUnionList$Copy;", Cond.fieldLink RX4 20 "UnionList$Sent" "request" "LUnionList$Request;", Cond.methodLink RX5 208 yX2_put]
def wsX5_mend_r3 : List Cond := [Cond.instanceMethod yX2_put, Cond.selects RX2 yX2_put yX2_put, Cond.initialized RX2, Cond.code yX2_put cX2_put 4 none, Cond.fieldLink RX2 21 "UnionList$Post" "size" "I", Cond.fieldLink RX2 15 "UnionList$Post" "waiting" "[LUnionList$Sent;", Cond.fieldLink RX2 25 "UnionList$Sent" "arrival" "I"]
def wsX5_mend : List Cond := .code yX5_mend cX5_mend 3 none :: ((wsX5_mend_r1 ++ (wsX5_mend_r2 ++ wsX5_mend_r3)) ++ wsX10 ++ wsX50 ++ wsX40 ++ wsX20 ++ (vx_atS RX5 65 "java/lang/IllegalStateException" ["java/lang/RuntimeException", "java/lang/Exception"]).filter goodWord ++ (vx_atS RX5 197 "java/lang/IndexOutOfBoundsException" ["java/lang/RuntimeException", "java/lang/Exception"]).filter goodWord)
def wsX5_way : List Cond := .code yX5_way cX5_way 2 (some .int) :: ([.methodLink RX5 200 Lib.Math.abs.name, .static Lib.Math.abs.name, .initialized "java/lang/Math", .code Lib.Math.abs.name Lib.Math.abs.code 1 (some .int)])
def wsX5_nearestListedFree : List Cond := .code yX5_nearestListedFree cX5_nearestListedFree 9 (some (.object "UnionList$Copy")) :: ([.fieldLink RX5 11 "UnionList" "copies" "[LUnionList$Copy;", .fieldLink RX5 146 "UnionList$Request" "house" "I", .fieldLink RX5 149 "UnionList$Copy" "home" "I", .methodLink RX5 259 yX3_mayAskFor, .instanceMethod yX3_mayAskFor, .selects RX3 yX3_mayAskFor yX3_mayAskFor, .initialized RX3, .code yX3_mayAskFor cX3_mayAskFor 3 (some .boolean), .fieldLink RX3 32 "UnionList$Request" "askedHomes" "I", .fieldLink RX3 35 "UnionList$Copy" "home" "I", .fieldLink RX3 40 "UnionList$Copy" "title" "I", .fieldLink RX3 15 "UnionList$Request" "title" "I", .fieldLink RX3 41 "UnionList$Copy" "knownToList" "I", .fieldLink RX3 9 "UnionList$Request" "house" "I", .methodLink RX5 152 yX5_way, .static yX5_way, .initialized RX5, .code yX5_way cX5_way 2 (some .int), .methodLink RX5 200 Lib.Math.abs.name, .static Lib.Math.abs.name, .initialized "java/lang/Math", .code Lib.Math.abs.name Lib.Math.abs.code 1 (some .int)] ++ wsX50 ++ wsX30 ++ wsX10)
def wsX5_askNextHome_r1 : List Cond := [Cond.fieldLink RX5 134 "UnionList$Request" "copy" "LUnionList$Copy;", Cond.fieldLink RX5 131 "UnionList$Request" "state" "I", Cond.fieldLink RX5 149 "UnionList$Copy" "home" "I", Cond.fieldLink RX5 146 "UnionList$Request" "house" "I", Cond.methodLink RX5 252 yX5_nearestListedFree, Cond.instanceMethod yX5_nearestListedFree, Cond.selects RX5 yX5_nearestListedFree yX5_nearestListedFree, Cond.initialized RX5, Cond.code yX5_nearestListedFree cX5_nearestListedFree 9 (some (.object "UnionList$Copy")), Cond.fieldLink RX5 11 "UnionList" "copies" "[LUnionList$Copy;", Cond.methodLink RX5 259 yX3_mayAskFor, Cond.instanceMethod yX3_mayAskFor, Cond.selects RX3 yX3_mayAskFor yX3_mayAskFor, Cond.initialized RX3, Cond.code yX3_mayAskFor cX3_mayAskFor 3 (some .boolean), Cond.fieldLink RX3 32 "UnionList$Request" "askedHomes" "I", Cond.fieldLink RX3 35 "UnionList$Copy" "home" "I", Cond.fieldLink RX3 40 "UnionList$Copy" "title" "I", Cond.fieldLink RX3 15 "UnionList$Request" "title" "I", Cond.fieldLink RX3 41 "UnionList$Copy" "knownToList" "I", Cond.fieldLink RX3 9 "UnionList$Request" "house" "I", Cond.methodLink RX5 152 yX5_way, Cond.static yX5_way, Cond.code yX5_way cX5_way 2 (some .int)]
def wsX5_askNextHome_r2 : List Cond := [Cond.methodLink RX5 200 Lib.Math.abs.name, Cond.static Lib.Math.abs.name, Cond.initialized "java/lang/Math", Cond.code Lib.Math.abs.name Lib.Math.abs.code 1 (some .int), Cond.methodLink RX5 256 yX3_markAsked, Cond.instanceMethod yX3_markAsked, Cond.selects RX3 yX3_markAsked yX3_markAsked, Cond.code yX3_markAsked cX3_markAsked 2 none, Cond.methodLink RX5 156 yX5_send, Cond.instanceMethod yX5_send, Cond.selects RX5 yX5_send yX5_send, Cond.code yX5_send cX5_send 6 (some .int), Cond.fieldLink RX5 44 "UnionList" "day" "I", Cond.fieldLink RX5 26 "UnionList" "post" "LUnionList$Post;", Cond.classLink RX5 203 RX4, Cond.instantiable RX4 4, Cond.initialized RX4, Cond.methodLink RX5 205 yX4_init, Cond.instanceMethod yX4_init, Cond.code yX4_init cX4_init 5 none, Cond.methodLink RX4 1 objectInit, Cond.instanceMethod objectInit, Cond.code objectInit ⟨#[0xb1]⟩ 1 none, Cond.fieldLink RX4 7 "UnionList$Sent" "kind" "I"]
def wsX5_askNextHome_r3 : List Cond := [Cond.fieldLink RX4 13 "UnionList$Sent" "arrival" "I", Cond.fieldLink RX4 16 "UnionList$Sent" "copy" "LUnionList$Copy;", Cond.fieldLink RX4 20 "UnionList$Sent" "request" "LUnionList$Request;", Cond.methodLink RX5 208 yX2_put, Cond.instanceMethod yX2_put, Cond.selects RX2 yX2_put yX2_put, Cond.initialized RX2, Cond.code yX2_put cX2_put 4 none, Cond.fieldLink RX2 21 "UnionList$Post" "size" "I", Cond.fieldLink RX2 15 "UnionList$Post" "waiting" "[LUnionList$Sent;", Cond.fieldLink RX2 25 "UnionList$Sent" "arrival" "I"]
def wsX5_askNextHome : List Cond := .code yX5_askNextHome cX5_askNextHome 3 none :: ((wsX5_askNextHome_r1 ++ (wsX5_askNextHome_r2 ++ wsX5_askNextHome_r3)) ++ wsX30 ++ wsX10 ++ wsX50 ++ wsX40 ++ wsX20)
def wsX5_request_r1 : List Cond := [Cond.classLink RX5 54 "java/lang/IllegalArgumentException", Cond.initialized "java/lang/IllegalArgumentException", Cond.classLink RX5 61 "java/lang/IllegalStateException", Cond.initialized "java/lang/IllegalStateException", Cond.fieldLink RX5 41 "UnionList" "requestCount" "I", Cond.fieldLink RX5 17 "UnionList" "requests" "[LUnionList$Request;", Cond.classLink RX5 15 RX3, Cond.instantiable RX3 7, Cond.initialized RX3, Cond.methodLink RX5 47 yX5_isHouse, Cond.static yX5_isHouse, Cond.initialized RX5, Cond.code yX5_isHouse cX5_isHouse 1 (some .boolean), Cond.methodLink RX5 51 yX5_isTitle, Cond.static yX5_isTitle, Cond.code yX5_isTitle cX5_isTitle 1 (some .boolean), Cond.methodLink RX5 120 yX3_init, Cond.instanceMethod yX3_init, Cond.code yX3_init cX3_init 3 none, Cond.methodLink RX3 3 objectInit, Cond.instanceMethod objectInit, Cond.code objectInit ⟨#[0xb1]⟩ 1 none, Cond.fieldLink RX3 9 "UnionList$Request" "house" "I", Cond.fieldLink RX3 15 "UnionList$Request" "title" "I"]
def wsX5_request_r2 : List Cond := [Cond.fieldLink RX3 18 "UnionList$Request" "copy" "LUnionList$Copy;", Cond.fieldLink RX3 22 "UnionList$Request" "state" "I", Cond.fieldLink RX3 25 "UnionList$Request" "dueDay" "I", Cond.fieldLink RX3 28 "UnionList$Request" "recallSent" "Z", Cond.fieldLink RX3 32 "UnionList$Request" "askedHomes" "I", Cond.methodLink RX5 123 yX5_askNextHome, Cond.instanceMethod yX5_askNextHome, Cond.selects RX5 yX5_askNextHome yX5_askNextHome, Cond.code yX5_askNextHome cX5_askNextHome 3 none, Cond.fieldLink RX5 134 "UnionList$Request" "copy" "LUnionList$Copy;", Cond.fieldLink RX5 131 "UnionList$Request" "state" "I", Cond.fieldLink RX5 149 "UnionList$Copy" "home" "I", Cond.fieldLink RX5 146 "UnionList$Request" "house" "I", Cond.methodLink RX5 252 yX5_nearestListedFree, Cond.instanceMethod yX5_nearestListedFree, Cond.selects RX5 yX5_nearestListedFree yX5_nearestListedFree, Cond.code yX5_nearestListedFree cX5_nearestListedFree 9 (some (.object "UnionList$Copy")), Cond.fieldLink RX5 11 "UnionList" "copies" "[LUnionList$Copy;", Cond.methodLink RX5 259 yX3_mayAskFor, Cond.instanceMethod yX3_mayAskFor, Cond.selects RX3 yX3_mayAskFor yX3_mayAskFor, Cond.code yX3_mayAskFor cX3_mayAskFor 3 (some .boolean), Cond.fieldLink RX3 35 "UnionList$Copy" "home" "I", Cond.fieldLink RX3 40 "UnionList$Copy" "title" "I"]
def wsX5_request_r3 : List Cond := [Cond.fieldLink RX3 41 "UnionList$Copy" "knownToList" "I", Cond.methodLink RX5 152 yX5_way, Cond.static yX5_way, Cond.code yX5_way cX5_way 2 (some .int), Cond.methodLink RX5 200 Lib.Math.abs.name, Cond.static Lib.Math.abs.name, Cond.initialized "java/lang/Math", Cond.code Lib.Math.abs.name Lib.Math.abs.code 1 (some .int), Cond.methodLink RX5 256 yX3_markAsked, Cond.instanceMethod yX3_markAsked, Cond.selects RX3 yX3_markAsked yX3_markAsked, Cond.code yX3_markAsked cX3_markAsked 2 none, Cond.methodLink RX5 156 yX5_send, Cond.instanceMethod yX5_send, Cond.selects RX5 yX5_send yX5_send, Cond.code yX5_send cX5_send 6 (some .int), Cond.fieldLink RX5 44 "UnionList" "day" "I", Cond.fieldLink RX5 26 "UnionList" "post" "LUnionList$Post;", Cond.classLink RX5 203 RX4, Cond.instantiable RX4 4, Cond.initialized RX4, Cond.methodLink RX5 205 yX4_init, Cond.instanceMethod yX4_init, Cond.code yX4_init cX4_init 5 none]
def wsX5_request_r4 : List Cond := [Cond.methodLink RX4 1 objectInit, Cond.fieldLink RX4 7 "UnionList$Sent" "kind" "I", Cond.fieldLink RX4 13 "UnionList$Sent" "arrival" "I", Cond.fieldLink RX4 16 "UnionList$Sent" "copy" "LUnionList$Copy;", Cond.fieldLink RX4 20 "UnionList$Sent" "request" "LUnionList$Request;", Cond.methodLink RX5 208 yX2_put, Cond.instanceMethod yX2_put, Cond.selects RX2 yX2_put yX2_put, Cond.initialized RX2, Cond.code yX2_put cX2_put 4 none, Cond.fieldLink RX2 21 "UnionList$Post" "size" "I", Cond.fieldLink RX2 15 "UnionList$Post" "waiting" "[LUnionList$Sent;", Cond.fieldLink RX2 25 "UnionList$Sent" "arrival" "I"]
def wsX5_request : List Cond := .code yX5_request cX5_request 5 (some .int) :: ((wsX5_request_r1 ++ (wsX5_request_r2 ++ (wsX5_request_r3 ++ wsX5_request_r4))) ++ wsX50 ++ wsX30 ++ wsX10 ++ wsX40 ++ wsX20 ++ (vx_atS RX5 58 "java/lang/IllegalArgumentException" ["java/lang/RuntimeException", "java/lang/Exception"]).filter goodWord ++ (vx_atS RX5 65 "java/lang/IllegalStateException" ["java/lang/RuntimeException", "java/lang/Exception"]).filter goodWord)
def wsX5_requestNumbered : List Cond := .code yX5_requestNumbered cX5_requestNumbered 3 (some (.object "UnionList$Request")) :: ([.classLink RX5 193 "java/lang/IndexOutOfBoundsException", .initialized "java/lang/IndexOutOfBoundsException", .fieldLink RX5 17 "UnionList" "requests" "[LUnionList$Request;"] ++ wsX50 ++ (vx_atS RX5 197 "java/lang/IndexOutOfBoundsException" ["java/lang/RuntimeException", "java/lang/Exception"]).filter goodWord)
def wsX5_state : List Cond := .code yX5_state cX5_state 2 (some .int) :: ([.fieldLink RX5 131 "UnionList$Request" "state" "I", .methodLink RX5 127 yX5_requestNumbered, .instanceMethod yX5_requestNumbered, .selects RX5 yX5_requestNumbered yX5_requestNumbered, .initialized RX5, .code yX5_requestNumbered cX5_requestNumbered 3 (some (.object "UnionList$Request")), .classLink RX5 193 "java/lang/IndexOutOfBoundsException", .initialized "java/lang/IndexOutOfBoundsException", .fieldLink RX5 17 "UnionList" "requests" "[LUnionList$Request;"] ++ wsX30 ++ wsX50 ++ (vx_atS RX5 197 "java/lang/IndexOutOfBoundsException" ["java/lang/RuntimeException", "java/lang/Exception"]).filter goodWord)
def wsX5_copyOf : List Cond := .code yX5_copyOf cX5_copyOf 3 (some .int) :: ([.fieldLink RX5 134 "UnionList$Request" "copy" "LUnionList$Copy;", .fieldLink RX5 138 "UnionList$Copy" "number" "I", .methodLink RX5 127 yX5_requestNumbered, .instanceMethod yX5_requestNumbered, .selects RX5 yX5_requestNumbered yX5_requestNumbered, .initialized RX5, .code yX5_requestNumbered cX5_requestNumbered 3 (some (.object "UnionList$Request")), .classLink RX5 193 "java/lang/IndexOutOfBoundsException", .initialized "java/lang/IndexOutOfBoundsException", .fieldLink RX5 17 "UnionList" "requests" "[LUnionList$Request;"] ++ wsX30 ++ wsX10 ++ wsX50 ++ (vx_atS RX5 197 "java/lang/IndexOutOfBoundsException" ["java/lang/RuntimeException", "java/lang/Exception"]).filter goodWord)
def wsX5_due : List Cond := .code yX5_due cX5_due 3 (some .int) :: ([.classLink RX5 61 "java/lang/IllegalStateException", .initialized "java/lang/IllegalStateException", .fieldLink RX5 131 "UnionList$Request" "state" "I", .fieldLink RX5 143 "UnionList$Request" "dueDay" "I", .methodLink RX5 127 yX5_requestNumbered, .instanceMethod yX5_requestNumbered, .selects RX5 yX5_requestNumbered yX5_requestNumbered, .initialized RX5, .code yX5_requestNumbered cX5_requestNumbered 3 (some (.object "UnionList$Request")), .classLink RX5 193 "java/lang/IndexOutOfBoundsException", .initialized "java/lang/IndexOutOfBoundsException", .fieldLink RX5 17 "UnionList" "requests" "[LUnionList$Request;"] ++ wsX30 ++ wsX50 ++ (vx_atS RX5 65 "java/lang/IllegalStateException" ["java/lang/RuntimeException", "java/lang/Exception"]).filter goodWord ++ (vx_atS RX5 197 "java/lang/IndexOutOfBoundsException" ["java/lang/RuntimeException", "java/lang/Exception"]).filter goodWord)
def wsX5_renew_r1 : List Cond := [Cond.classLink RX5 61 "java/lang/IllegalStateException", Cond.initialized "java/lang/IllegalStateException", Cond.fieldLink RX5 134 "UnionList$Request" "copy" "LUnionList$Copy;", Cond.fieldLink RX5 131 "UnionList$Request" "state" "I", Cond.fieldLink RX5 146 "UnionList$Request" "house" "I", Cond.fieldLink RX5 149 "UnionList$Copy" "home" "I", Cond.methodLink RX5 127 yX5_requestNumbered, Cond.instanceMethod yX5_requestNumbered, Cond.selects RX5 yX5_requestNumbered yX5_requestNumbered, Cond.initialized RX5, Cond.code yX5_requestNumbered cX5_requestNumbered 3 (some (.object "UnionList$Request")), Cond.classLink RX5 193 "java/lang/IndexOutOfBoundsException", Cond.initialized "java/lang/IndexOutOfBoundsException", Cond.fieldLink RX5 17 "UnionList" "requests" "[LUnionList$Request;", Cond.methodLink RX5 152 yX5_way, Cond.static yX5_way, Cond.code yX5_way cX5_way 2 (some .int), Cond.methodLink RX5 200 Lib.Math.abs.name, Cond.static Lib.Math.abs.name, Cond.initialized "java/lang/Math", Cond.code Lib.Math.abs.name Lib.Math.abs.code 1 (some .int), Cond.methodLink RX5 156 yX5_send, Cond.instanceMethod yX5_send, Cond.selects RX5 yX5_send yX5_send]
def wsX5_renew_r2 : List Cond := [Cond.code yX5_send cX5_send 6 (some .int), Cond.fieldLink RX5 44 "UnionList" "day" "I", Cond.fieldLink RX5 26 "UnionList" "post" "LUnionList$Post;", Cond.classLink RX5 203 RX4, Cond.instantiable RX4 4, Cond.initialized RX4, Cond.methodLink RX5 205 yX4_init, Cond.instanceMethod yX4_init, Cond.code yX4_init cX4_init 5 none, Cond.methodLink RX4 1 objectInit, Cond.instanceMethod objectInit, Cond.code objectInit ⟨#[0xb1]⟩ 1 none, Cond.fieldLink RX4 7 "UnionList$Sent" "kind" "I", Cond.fieldLink RX4 13 "UnionList$Sent" "arrival" "I", Cond.fieldLink RX4 16 "UnionList$Sent" "copy" "LUnionList$Copy;", Cond.fieldLink RX4 20 "UnionList$Sent" "request" "LUnionList$Request;", Cond.methodLink RX5 208 yX2_put, Cond.instanceMethod yX2_put, Cond.selects RX2 yX2_put yX2_put, Cond.initialized RX2, Cond.code yX2_put cX2_put 4 none, Cond.fieldLink RX2 21 "UnionList$Post" "size" "I", Cond.fieldLink RX2 15 "UnionList$Post" "waiting" "[LUnionList$Sent;", Cond.fieldLink RX2 25 "UnionList$Sent" "arrival" "I"]
def wsX5_renew : List Cond := .code yX5_renew cX5_renew 4 (some .int) :: ((wsX5_renew_r1 ++ wsX5_renew_r2) ++ wsX30 ++ wsX10 ++ wsX50 ++ wsX40 ++ wsX20 ++ (vx_atS RX5 65 "java/lang/IllegalStateException" ["java/lang/RuntimeException", "java/lang/Exception"]).filter goodWord ++ (vx_atS RX5 197 "java/lang/IndexOutOfBoundsException" ["java/lang/RuntimeException", "java/lang/Exception"]).filter goodWord)
def wsX5_recall_r1 : List Cond := [Cond.classLink RX5 61 "java/lang/IllegalStateException", Cond.initialized "java/lang/IllegalStateException", Cond.fieldLink RX5 134 "UnionList$Request" "copy" "LUnionList$Copy;", Cond.fieldLink RX5 131 "UnionList$Request" "state" "I", Cond.fieldLink RX5 160 "UnionList$Request" "recallSent" "Z", Cond.fieldLink RX5 146 "UnionList$Request" "house" "I", Cond.fieldLink RX5 149 "UnionList$Copy" "home" "I", Cond.methodLink RX5 127 yX5_requestNumbered, Cond.instanceMethod yX5_requestNumbered, Cond.selects RX5 yX5_requestNumbered yX5_requestNumbered, Cond.initialized RX5, Cond.code yX5_requestNumbered cX5_requestNumbered 3 (some (.object "UnionList$Request")), Cond.classLink RX5 193 "java/lang/IndexOutOfBoundsException", Cond.initialized "java/lang/IndexOutOfBoundsException", Cond.fieldLink RX5 17 "UnionList" "requests" "[LUnionList$Request;", Cond.methodLink RX5 152 yX5_way, Cond.static yX5_way, Cond.code yX5_way cX5_way 2 (some .int), Cond.methodLink RX5 200 Lib.Math.abs.name, Cond.static Lib.Math.abs.name, Cond.initialized "java/lang/Math", Cond.code Lib.Math.abs.name Lib.Math.abs.code 1 (some .int), Cond.methodLink RX5 156 yX5_send, Cond.instanceMethod yX5_send]
def wsX5_recall_r2 : List Cond := [Cond.selects RX5 yX5_send yX5_send, Cond.code yX5_send cX5_send 6 (some .int), Cond.fieldLink RX5 44 "UnionList" "day" "I", Cond.fieldLink RX5 26 "UnionList" "post" "LUnionList$Post;", Cond.classLink RX5 203 RX4, Cond.instantiable RX4 4, Cond.initialized RX4, Cond.methodLink RX5 205 yX4_init, Cond.instanceMethod yX4_init, Cond.code yX4_init cX4_init 5 none, Cond.methodLink RX4 1 objectInit, Cond.instanceMethod objectInit, Cond.code objectInit ⟨#[0xb1]⟩ 1 none, Cond.fieldLink RX4 7 "UnionList$Sent" "kind" "I", Cond.fieldLink RX4 13 "UnionList$Sent" "arrival" "I", Cond.fieldLink RX4 16 "UnionList$Sent" "copy" "LUnionList$Copy;", Cond.fieldLink RX4 20 "UnionList$Sent" "request" "LUnionList$Request;", Cond.methodLink RX5 208 yX2_put, Cond.instanceMethod yX2_put, Cond.selects RX2 yX2_put yX2_put, Cond.initialized RX2, Cond.code yX2_put cX2_put 4 none, Cond.fieldLink RX2 21 "UnionList$Post" "size" "I", Cond.fieldLink RX2 15 "UnionList$Post" "waiting" "[LUnionList$Sent;"]
def wsX5_recall_r3 : List Cond := [Cond.fieldLink RX2 25 "UnionList$Sent" "arrival" "I"]
def wsX5_recall : List Cond := .code yX5_recall cX5_recall 4 (some .int) :: ((wsX5_recall_r1 ++ (wsX5_recall_r2 ++ wsX5_recall_r3)) ++ wsX30 ++ wsX10 ++ wsX50 ++ wsX40 ++ wsX20 ++ (vx_atS RX5 65 "java/lang/IllegalStateException" ["java/lang/RuntimeException", "java/lang/Exception"]).filter goodWord ++ (vx_atS RX5 197 "java/lang/IndexOutOfBoundsException" ["java/lang/RuntimeException", "java/lang/Exception"]).filter goodWord)
def wsX5_sendBack_r1 : List Cond := [Cond.classLink RX5 61 "java/lang/IllegalStateException", Cond.initialized "java/lang/IllegalStateException", Cond.fieldLink RX5 134 "UnionList$Request" "copy" "LUnionList$Copy;", Cond.fieldLink RX5 131 "UnionList$Request" "state" "I", Cond.fieldLink RX5 44 "UnionList" "day" "I", Cond.fieldLink RX5 143 "UnionList$Request" "dueDay" "I", Cond.methodLink RX5 165 Lib.Math.max.name, Cond.static Lib.Math.max.name, Cond.initialized "java/lang/Math", Cond.code Lib.Math.max.name Lib.Math.max.code 2 (some .int), Cond.fieldLink RX5 33 "UnionList" "accounts" "LUnionList$Accounts;", Cond.fieldLink RX5 146 "UnionList$Request" "house" "I", Cond.fieldLink RX5 149 "UnionList$Copy" "home" "I", Cond.fieldLink RX5 98 "UnionList$Copy" "onItsWay" "Z", Cond.methodLink RX5 127 yX5_requestNumbered, Cond.instanceMethod yX5_requestNumbered, Cond.selects RX5 yX5_requestNumbered yX5_requestNumbered, Cond.initialized RX5, Cond.code yX5_requestNumbered cX5_requestNumbered 3 (some (.object "UnionList$Request")), Cond.classLink RX5 193 "java/lang/IndexOutOfBoundsException", Cond.initialized "java/lang/IndexOutOfBoundsException", Cond.fieldLink RX5 17 "UnionList" "requests" "[LUnionList$Request;", Cond.methodLink RX5 170 yX0_charge, Cond.instanceMethod yX0_charge]
def wsX5_sendBack_r2 : List Cond := [Cond.selects RX0 yX0_charge yX0_charge, Cond.initialized RX0, Cond.code yX0_charge cX0_charge 4 none, Cond.fieldLink RX0 9 "UnionList$Accounts" "debts" "[I", Cond.static yX5_isHouse, Cond.code yX5_isHouse cX5_isHouse 1 (some .boolean), Cond.methodLink RX5 152 yX5_way, Cond.static yX5_way, Cond.code yX5_way cX5_way 2 (some .int), Cond.methodLink RX5 200 Lib.Math.abs.name, Cond.static Lib.Math.abs.name, Cond.code Lib.Math.abs.name Lib.Math.abs.code 1 (some .int), Cond.methodLink RX5 156 yX5_send, Cond.instanceMethod yX5_send, Cond.selects RX5 yX5_send yX5_send, Cond.code yX5_send cX5_send 6 (some .int), Cond.fieldLink RX5 26 "UnionList" "post" "LUnionList$Post;", Cond.classLink RX5 203 RX4, Cond.instantiable RX4 4, Cond.initialized RX4, Cond.methodLink RX5 205 yX4_init, Cond.instanceMethod yX4_init, Cond.code yX4_init cX4_init 5 none, Cond.methodLink RX4 1 objectInit]
def wsX5_sendBack_r3 : List Cond := [Cond.instanceMethod objectInit, Cond.code objectInit ⟨#[0xb1]⟩ 1 none, Cond.fieldLink RX4 7 "UnionList$Sent" "kind" "I", Cond.fieldLink RX4 13 "UnionList$Sent" "arrival" "I", Cond.fieldLink RX4 16 "UnionList$Sent" "copy" "LUnionList$Copy;", Cond.fieldLink RX4 20 "UnionList$Sent" "request" "LUnionList$Request;", Cond.methodLink RX5 208 yX2_put, Cond.instanceMethod yX2_put, Cond.selects RX2 yX2_put yX2_put, Cond.initialized RX2, Cond.code yX2_put cX2_put 4 none, Cond.fieldLink RX2 21 "UnionList$Post" "size" "I", Cond.fieldLink RX2 15 "UnionList$Post" "waiting" "[LUnionList$Sent;", Cond.fieldLink RX2 25 "UnionList$Sent" "arrival" "I"]
def wsX5_sendBack : List Cond := .code yX5_sendBack cX5_sendBack 5 (some .int) :: ((wsX5_sendBack_r1 ++ (wsX5_sendBack_r2 ++ wsX5_sendBack_r3)) ++ wsX30 ++ wsX50 ++ wsX10 ++ wsX00 ++ wsX40 ++ wsX20 ++ (vx_atS RX5 65 "java/lang/IllegalStateException" ["java/lang/RuntimeException", "java/lang/Exception"]).filter goodWord ++ (vx_atS RX5 197 "java/lang/IndexOutOfBoundsException" ["java/lang/RuntimeException", "java/lang/Exception"]).filter goodWord)
def wsX5_answerQuestion_r1 : List Cond := [Cond.fieldLink RX5 131 "UnionList$Request" "state" "I", Cond.fieldLink RX5 98 "UnionList$Copy" "onItsWay" "Z", Cond.fieldLink RX5 146 "UnionList$Request" "house" "I", Cond.fieldLink RX5 149 "UnionList$Copy" "home" "I", Cond.methodLink RX5 83 yX1_canBeSent, Cond.instanceMethod yX1_canBeSent, Cond.selects RX1 yX1_canBeSent yX1_canBeSent, Cond.initialized RX1, Cond.code yX1_canBeSent cX1_canBeSent 1 (some .boolean), Cond.fieldLink RX1 34 "UnionList$Copy" "harmKnown" "Z", Cond.methodLink RX1 37 yX1_isAtHome, Cond.instanceMethod yX1_isAtHome, Cond.selects RX1 yX1_isAtHome yX1_isAtHome, Cond.code yX1_isAtHome cX1_isAtHome 1 (some .boolean), Cond.fieldLink RX1 21 "UnionList$Copy" "holder" "I", Cond.fieldLink RX1 15 "UnionList$Copy" "home" "I", Cond.fieldLink RX1 24 "UnionList$Copy" "onItsWay" "Z", Cond.methodLink RX5 123 yX5_askNextHome, Cond.instanceMethod yX5_askNextHome, Cond.selects RX5 yX5_askNextHome yX5_askNextHome, Cond.initialized RX5, Cond.code yX5_askNextHome cX5_askNextHome 3 none, Cond.fieldLink RX5 134 "UnionList$Request" "copy" "LUnionList$Copy;", Cond.methodLink RX5 252 yX5_nearestListedFree]
def wsX5_answerQuestion_r2 : List Cond := [Cond.instanceMethod yX5_nearestListedFree, Cond.selects RX5 yX5_nearestListedFree yX5_nearestListedFree, Cond.code yX5_nearestListedFree cX5_nearestListedFree 9 (some (.object "UnionList$Copy")), Cond.fieldLink RX5 11 "UnionList" "copies" "[LUnionList$Copy;", Cond.methodLink RX5 259 yX3_mayAskFor, Cond.instanceMethod yX3_mayAskFor, Cond.selects RX3 yX3_mayAskFor yX3_mayAskFor, Cond.initialized RX3, Cond.code yX3_mayAskFor cX3_mayAskFor 3 (some .boolean), Cond.fieldLink RX3 32 "UnionList$Request" "askedHomes" "I", Cond.fieldLink RX3 35 "UnionList$Copy" "home" "I", Cond.fieldLink RX3 40 "UnionList$Copy" "title" "I", Cond.fieldLink RX3 15 "UnionList$Request" "title" "I", Cond.fieldLink RX3 41 "UnionList$Copy" "knownToList" "I", Cond.fieldLink RX3 9 "UnionList$Request" "house" "I", Cond.methodLink RX5 152 yX5_way, Cond.static yX5_way, Cond.code yX5_way cX5_way 2 (some .int), Cond.methodLink RX5 200 Lib.Math.abs.name, Cond.static Lib.Math.abs.name, Cond.initialized "java/lang/Math", Cond.code Lib.Math.abs.name Lib.Math.abs.code 1 (some .int), Cond.methodLink RX5 256 yX3_markAsked, Cond.instanceMethod yX3_markAsked]
def wsX5_answerQuestion_r3 : List Cond := [Cond.selects RX3 yX3_markAsked yX3_markAsked, Cond.code yX3_markAsked cX3_markAsked 2 none, Cond.methodLink RX5 156 yX5_send, Cond.instanceMethod yX5_send, Cond.selects RX5 yX5_send yX5_send, Cond.code yX5_send cX5_send 6 (some .int), Cond.fieldLink RX5 44 "UnionList" "day" "I", Cond.fieldLink RX5 26 "UnionList" "post" "LUnionList$Post;", Cond.classLink RX5 203 RX4, Cond.instantiable RX4 4, Cond.initialized RX4, Cond.methodLink RX5 205 yX4_init, Cond.instanceMethod yX4_init, Cond.code yX4_init cX4_init 5 none, Cond.methodLink RX4 1 objectInit, Cond.instanceMethod objectInit, Cond.code objectInit ⟨#[0xb1]⟩ 1 none, Cond.fieldLink RX4 7 "UnionList$Sent" "kind" "I", Cond.fieldLink RX4 13 "UnionList$Sent" "arrival" "I", Cond.fieldLink RX4 16 "UnionList$Sent" "copy" "LUnionList$Copy;", Cond.fieldLink RX4 20 "UnionList$Sent" "request" "LUnionList$Request;", Cond.methodLink RX5 208 yX2_put, Cond.instanceMethod yX2_put, Cond.selects RX2 yX2_put yX2_put]
def wsX5_answerQuestion_r4 : List Cond := [Cond.initialized RX2, Cond.code yX2_put cX2_put 4 none, Cond.fieldLink RX2 21 "UnionList$Post" "size" "I", Cond.fieldLink RX2 15 "UnionList$Post" "waiting" "[LUnionList$Sent;", Cond.fieldLink RX2 25 "UnionList$Sent" "arrival" "I", Cond.methodLink RX5 72 yX5_sendNews, Cond.instanceMethod yX5_sendNews, Cond.selects RX5 yX5_sendNews yX5_sendNews, Cond.code yX5_sendNews cX5_sendNews 3 none, Cond.methodLink RX5 212 yX5_wayToList, Cond.static yX5_wayToList, Cond.code yX5_wayToList cX5_wayToList 1 (some .int)]
def wsX5_answerQuestion : List Cond := .code yX5_answerQuestion cX5_answerQuestion 3 none :: ((wsX5_answerQuestion_r1 ++ (wsX5_answerQuestion_r2 ++ (wsX5_answerQuestion_r3 ++ wsX5_answerQuestion_r4))) ++ wsX30 ++ wsX10 ++ wsX50 ++ wsX40 ++ wsX20)
def wsX5_beginLoan : List Cond := .code yX5_beginLoan cX5_beginLoan 3 none :: ([.fieldLink RX5 146 "UnionList$Request" "house" "I", .fieldLink RX5 80 "UnionList$Copy" "holder" "I", .fieldLink RX5 98 "UnionList$Copy" "onItsWay" "Z", .fieldLink RX5 131 "UnionList$Request" "state" "I", .fieldLink RX5 44 "UnionList" "day" "I", .fieldLink RX5 143 "UnionList$Request" "dueDay" "I", .fieldLink RX5 33 "UnionList" "accounts" "LUnionList$Accounts;", .fieldLink RX5 149 "UnionList$Copy" "home" "I", .methodLink RX5 263 yX0_chargeLoan, .instanceMethod yX0_chargeLoan, .selects RX0 yX0_chargeLoan yX0_chargeLoan, .initialized RX0, .code yX0_chargeLoan cX0_chargeLoan 3 none, .fieldLink RX0 15 "UnionList$Accounts" "homeCopies" "[I", .fieldLink RX0 18 "UnionList$Accounts" "freeLoans" "[I", .static yX5_isHouse, .initialized RX5, .code yX5_isHouse cX5_isHouse 1 (some .boolean), .methodLink RX0 25 yX0_charge, .instanceMethod yX0_charge, .selects RX0 yX0_charge yX0_charge, .code yX0_charge cX0_charge 4 none, .fieldLink RX0 9 "UnionList$Accounts" "debts" "[I"] ++ wsX30 ++ wsX10 ++ wsX50 ++ wsX00)
def wsX5_comeHome_r1 : List Cond := [Cond.fieldLink RX5 149 "UnionList$Copy" "home" "I", Cond.fieldLink RX5 80 "UnionList$Copy" "holder" "I", Cond.fieldLink RX5 98 "UnionList$Copy" "onItsWay" "Z", Cond.fieldLink RX5 131 "UnionList$Request" "state" "I", Cond.methodLink RX5 104 yX5_examine, Cond.instanceMethod yX5_examine, Cond.selects RX5 yX5_examine yX5_examine, Cond.initialized RX5, Cond.code yX5_examine cX5_examine 2 (some .int), Cond.fieldLink RX5 111 "UnionList$Copy" "harmKnown" "Z", Cond.fieldLink RX5 95 "UnionList$Copy" "harmedBy" "I", Cond.fieldLink RX5 33 "UnionList" "accounts" "LUnionList$Accounts;", Cond.methodLink RX5 90 yX1_isHarmed, Cond.instanceMethod yX1_isHarmed, Cond.selects RX1 yX1_isHarmed yX1_isHarmed, Cond.initialized RX1, Cond.code yX1_isHarmed cX1_isHarmed 1 (some .boolean), Cond.fieldLink RX1 31 "UnionList$Copy" "harmedBy" "I", Cond.methodLink RX5 170 yX0_charge, Cond.instanceMethod yX0_charge, Cond.selects RX0 yX0_charge yX0_charge, Cond.initialized RX0, Cond.code yX0_charge cX0_charge 4 none, Cond.fieldLink RX0 9 "UnionList$Accounts" "debts" "[I"]
def wsX5_comeHome_r2 : List Cond := [Cond.static yX5_isHouse, Cond.code yX5_isHouse cX5_isHouse 1 (some .boolean), Cond.methodLink RX5 83 yX1_canBeSent, Cond.instanceMethod yX1_canBeSent, Cond.selects RX1 yX1_canBeSent yX1_canBeSent, Cond.code yX1_canBeSent cX1_canBeSent 1 (some .boolean), Cond.fieldLink RX1 34 "UnionList$Copy" "harmKnown" "Z", Cond.methodLink RX1 37 yX1_isAtHome, Cond.instanceMethod yX1_isAtHome, Cond.selects RX1 yX1_isAtHome yX1_isAtHome, Cond.code yX1_isAtHome cX1_isAtHome 1 (some .boolean), Cond.fieldLink RX1 21 "UnionList$Copy" "holder" "I", Cond.fieldLink RX1 15 "UnionList$Copy" "home" "I", Cond.fieldLink RX1 24 "UnionList$Copy" "onItsWay" "Z", Cond.methodLink RX5 72 yX5_sendNews, Cond.instanceMethod yX5_sendNews, Cond.selects RX5 yX5_sendNews yX5_sendNews, Cond.code yX5_sendNews cX5_sendNews 3 none, Cond.methodLink RX5 212 yX5_wayToList, Cond.static yX5_wayToList, Cond.code yX5_wayToList cX5_wayToList 1 (some .int), Cond.methodLink RX5 156 yX5_send, Cond.instanceMethod yX5_send, Cond.selects RX5 yX5_send yX5_send]
def wsX5_comeHome_r3 : List Cond := [Cond.code yX5_send cX5_send 6 (some .int), Cond.fieldLink RX5 44 "UnionList" "day" "I", Cond.fieldLink RX5 26 "UnionList" "post" "LUnionList$Post;", Cond.classLink RX5 203 RX4, Cond.instantiable RX4 4, Cond.initialized RX4, Cond.methodLink RX5 205 yX4_init, Cond.instanceMethod yX4_init, Cond.code yX4_init cX4_init 5 none, Cond.methodLink RX4 1 objectInit, Cond.instanceMethod objectInit, Cond.code objectInit ⟨#[0xb1]⟩ 1 none, Cond.fieldLink RX4 7 "UnionList$Sent" "kind" "I", Cond.fieldLink RX4 13 "UnionList$Sent" "arrival" "I", Cond.fieldLink RX4 16 "UnionList$Sent" "copy" "LUnionList$Copy;", Cond.fieldLink RX4 20 "UnionList$Sent" "request" "LUnionList$Request;", Cond.methodLink RX5 208 yX2_put, Cond.instanceMethod yX2_put, Cond.selects RX2 yX2_put yX2_put, Cond.initialized RX2, Cond.code yX2_put cX2_put 4 none, Cond.fieldLink RX2 21 "UnionList$Post" "size" "I", Cond.fieldLink RX2 15 "UnionList$Post" "waiting" "[LUnionList$Sent;", Cond.fieldLink RX2 25 "UnionList$Sent" "arrival" "I"]
def wsX5_comeHome : List Cond := .code yX5_comeHome cX5_comeHome 3 none :: ((wsX5_comeHome_r1 ++ (wsX5_comeHome_r2 ++ wsX5_comeHome_r3)) ++ wsX10 ++ wsX30 ++ wsX50 ++ wsX00 ++ wsX40 ++ wsX20)
def wsX5_prolong : List Cond := .code yX5_prolong cX5_prolong 2 none :: ([.fieldLink RX5 131 "UnionList$Request" "state" "I", .fieldLink RX5 160 "UnionList$Request" "recallSent" "Z", .fieldLink RX5 143 "UnionList$Request" "dueDay" "I"] ++ wsX30)
def wsX5_shorten : List Cond := .code yX5_shorten cX5_shorten 2 none :: ([.fieldLink RX5 131 "UnionList$Request" "state" "I", .fieldLink RX5 143 "UnionList$Request" "dueDay" "I", .fieldLink RX5 44 "UnionList" "day" "I", .methodLink RX5 266 Lib.Math.min.name, .static Lib.Math.min.name, .initialized "java/lang/Math", .code Lib.Math.min.name Lib.Math.min.code 2 (some .int)] ++ wsX30 ++ wsX50)
def wsX5_deliver_r1 : List Cond := [Cond.fieldLink RX5 228 "UnionList$Sent" "copy" "LUnionList$Copy;", Cond.fieldLink RX5 229 "UnionList$Sent" "request" "LUnionList$Request;", Cond.fieldLink RX5 233 "UnionList$Sent" "kind" "I", Cond.fieldLink RX5 87 "UnionList$Copy" "knownToList" "I", Cond.methodLink RX5 236 yX5_answerQuestion, Cond.instanceMethod yX5_answerQuestion, Cond.selects RX5 yX5_answerQuestion yX5_answerQuestion, Cond.initialized RX5, Cond.code yX5_answerQuestion cX5_answerQuestion 3 none, Cond.fieldLink RX5 131 "UnionList$Request" "state" "I", Cond.fieldLink RX5 98 "UnionList$Copy" "onItsWay" "Z", Cond.fieldLink RX5 146 "UnionList$Request" "house" "I", Cond.fieldLink RX5 149 "UnionList$Copy" "home" "I", Cond.methodLink RX5 83 yX1_canBeSent, Cond.instanceMethod yX1_canBeSent, Cond.selects RX1 yX1_canBeSent yX1_canBeSent, Cond.initialized RX1, Cond.code yX1_canBeSent cX1_canBeSent 1 (some .boolean), Cond.fieldLink RX1 34 "UnionList$Copy" "harmKnown" "Z", Cond.methodLink RX1 37 yX1_isAtHome, Cond.instanceMethod yX1_isAtHome, Cond.selects RX1 yX1_isAtHome yX1_isAtHome, Cond.code yX1_isAtHome cX1_isAtHome 1 (some .boolean), Cond.fieldLink RX1 21 "UnionList$Copy" "holder" "I"]
def wsX5_deliver_r2 : List Cond := [Cond.fieldLink RX1 15 "UnionList$Copy" "home" "I", Cond.fieldLink RX1 24 "UnionList$Copy" "onItsWay" "Z", Cond.methodLink RX5 123 yX5_askNextHome, Cond.instanceMethod yX5_askNextHome, Cond.selects RX5 yX5_askNextHome yX5_askNextHome, Cond.code yX5_askNextHome cX5_askNextHome 3 none, Cond.fieldLink RX5 134 "UnionList$Request" "copy" "LUnionList$Copy;", Cond.methodLink RX5 252 yX5_nearestListedFree, Cond.instanceMethod yX5_nearestListedFree, Cond.selects RX5 yX5_nearestListedFree yX5_nearestListedFree, Cond.code yX5_nearestListedFree cX5_nearestListedFree 9 (some (.object "UnionList$Copy")), Cond.fieldLink RX5 11 "UnionList" "copies" "[LUnionList$Copy;", Cond.methodLink RX5 259 yX3_mayAskFor, Cond.instanceMethod yX3_mayAskFor, Cond.selects RX3 yX3_mayAskFor yX3_mayAskFor, Cond.initialized RX3, Cond.code yX3_mayAskFor cX3_mayAskFor 3 (some .boolean), Cond.fieldLink RX3 32 "UnionList$Request" "askedHomes" "I", Cond.fieldLink RX3 35 "UnionList$Copy" "home" "I", Cond.fieldLink RX3 40 "UnionList$Copy" "title" "I", Cond.fieldLink RX3 15 "UnionList$Request" "title" "I", Cond.fieldLink RX3 41 "UnionList$Copy" "knownToList" "I", Cond.fieldLink RX3 9 "UnionList$Request" "house" "I", Cond.methodLink RX5 152 yX5_way]
def wsX5_deliver_r3 : List Cond := [Cond.static yX5_way, Cond.code yX5_way cX5_way 2 (some .int), Cond.methodLink RX5 200 Lib.Math.abs.name, Cond.static Lib.Math.abs.name, Cond.initialized "java/lang/Math", Cond.code Lib.Math.abs.name Lib.Math.abs.code 1 (some .int), Cond.methodLink RX5 256 yX3_markAsked, Cond.instanceMethod yX3_markAsked, Cond.selects RX3 yX3_markAsked yX3_markAsked, Cond.code yX3_markAsked cX3_markAsked 2 none, Cond.methodLink RX5 156 yX5_send, Cond.instanceMethod yX5_send, Cond.selects RX5 yX5_send yX5_send, Cond.code yX5_send cX5_send 6 (some .int), Cond.fieldLink RX5 44 "UnionList" "day" "I", Cond.fieldLink RX5 26 "UnionList" "post" "LUnionList$Post;", Cond.classLink RX5 203 RX4, Cond.instantiable RX4 4, Cond.initialized RX4, Cond.methodLink RX5 205 yX4_init, Cond.instanceMethod yX4_init, Cond.code yX4_init cX4_init 5 none, Cond.methodLink RX4 1 objectInit, Cond.instanceMethod objectInit]
def wsX5_deliver_r4 : List Cond := [Cond.code objectInit ⟨#[0xb1]⟩ 1 none, Cond.fieldLink RX4 7 "UnionList$Sent" "kind" "I", Cond.fieldLink RX4 13 "UnionList$Sent" "arrival" "I", Cond.fieldLink RX4 16 "UnionList$Sent" "copy" "LUnionList$Copy;", Cond.fieldLink RX4 20 "UnionList$Sent" "request" "LUnionList$Request;", Cond.methodLink RX5 208 yX2_put, Cond.instanceMethod yX2_put, Cond.selects RX2 yX2_put yX2_put, Cond.initialized RX2, Cond.code yX2_put cX2_put 4 none, Cond.fieldLink RX2 21 "UnionList$Post" "size" "I", Cond.fieldLink RX2 15 "UnionList$Post" "waiting" "[LUnionList$Sent;", Cond.fieldLink RX2 25 "UnionList$Sent" "arrival" "I", Cond.methodLink RX5 72 yX5_sendNews, Cond.instanceMethod yX5_sendNews, Cond.selects RX5 yX5_sendNews yX5_sendNews, Cond.code yX5_sendNews cX5_sendNews 3 none, Cond.methodLink RX5 212 yX5_wayToList, Cond.static yX5_wayToList, Cond.code yX5_wayToList cX5_wayToList 1 (some .int), Cond.methodLink RX5 240 yX5_beginLoan, Cond.instanceMethod yX5_beginLoan, Cond.selects RX5 yX5_beginLoan yX5_beginLoan, Cond.code yX5_beginLoan cX5_beginLoan 3 none]
def wsX5_deliver_r5 : List Cond := [Cond.fieldLink RX5 80 "UnionList$Copy" "holder" "I", Cond.fieldLink RX5 143 "UnionList$Request" "dueDay" "I", Cond.fieldLink RX5 33 "UnionList" "accounts" "LUnionList$Accounts;", Cond.methodLink RX5 263 yX0_chargeLoan, Cond.instanceMethod yX0_chargeLoan, Cond.selects RX0 yX0_chargeLoan yX0_chargeLoan, Cond.initialized RX0, Cond.code yX0_chargeLoan cX0_chargeLoan 3 none, Cond.fieldLink RX0 15 "UnionList$Accounts" "homeCopies" "[I", Cond.fieldLink RX0 18 "UnionList$Accounts" "freeLoans" "[I", Cond.static yX5_isHouse, Cond.code yX5_isHouse cX5_isHouse 1 (some .boolean), Cond.methodLink RX0 25 yX0_charge, Cond.instanceMethod yX0_charge, Cond.selects RX0 yX0_charge yX0_charge, Cond.code yX0_charge cX0_charge 4 none, Cond.fieldLink RX0 9 "UnionList$Accounts" "debts" "[I", Cond.methodLink RX5 243 yX5_comeHome, Cond.instanceMethod yX5_comeHome, Cond.selects RX5 yX5_comeHome yX5_comeHome, Cond.code yX5_comeHome cX5_comeHome 3 none, Cond.methodLink RX5 104 yX5_examine, Cond.instanceMethod yX5_examine, Cond.selects RX5 yX5_examine yX5_examine]
def wsX5_deliver_r6 : List Cond := [Cond.code yX5_examine cX5_examine 2 (some .int), Cond.fieldLink RX5 111 "UnionList$Copy" "harmKnown" "Z", Cond.fieldLink RX5 95 "UnionList$Copy" "harmedBy" "I", Cond.methodLink RX5 90 yX1_isHarmed, Cond.instanceMethod yX1_isHarmed, Cond.selects RX1 yX1_isHarmed yX1_isHarmed, Cond.code yX1_isHarmed cX1_isHarmed 1 (some .boolean), Cond.fieldLink RX1 31 "UnionList$Copy" "harmedBy" "I", Cond.methodLink RX5 170 yX0_charge, Cond.methodLink RX5 246 yX5_prolong, Cond.instanceMethod yX5_prolong, Cond.selects RX5 yX5_prolong yX5_prolong, Cond.code yX5_prolong cX5_prolong 2 none, Cond.fieldLink RX5 160 "UnionList$Request" "recallSent" "Z", Cond.methodLink RX5 249 yX5_shorten, Cond.instanceMethod yX5_shorten, Cond.selects RX5 yX5_shorten yX5_shorten, Cond.code yX5_shorten cX5_shorten 2 none, Cond.methodLink RX5 266 Lib.Math.min.name, Cond.static Lib.Math.min.name, Cond.code Lib.Math.min.name Lib.Math.min.code 2 (some .int)]
def wsX5_deliver : List Cond := .code yX5_deliver cX5_deliver 4 none :: ((wsX5_deliver_r1 ++ (wsX5_deliver_r2 ++ (wsX5_deliver_r3 ++ (wsX5_deliver_r4 ++ (wsX5_deliver_r5 ++ wsX5_deliver_r6))))) ++ wsX40 ++ wsX10 ++ wsX30 ++ wsX50 ++ wsX20 ++ wsX00)
def wsX5_arrivalsOfNextDay_r1 : List Cond := [Cond.fieldLink RX5 44 "UnionList" "day" "I", Cond.fieldLink RX5 33 "UnionList" "accounts" "LUnionList$Accounts;", Cond.fieldLink RX5 26 "UnionList" "post" "LUnionList$Post;", Cond.fieldLink RX5 218 "UnionList$Post" "size" "I", Cond.methodLink RX5 215 yX0_beginQuarter, Cond.instanceMethod yX0_beginQuarter, Cond.selects RX0 yX0_beginQuarter yX0_beginQuarter, Cond.initialized RX0, Cond.code yX0_beginQuarter cX0_beginQuarter 2 none, Cond.fieldLink RX0 18 "UnionList$Accounts" "freeLoans" "[I", Cond.methodLink RX5 221 yX2_takeArrived, Cond.instanceMethod yX2_takeArrived, Cond.selects RX2 yX2_takeArrived yX2_takeArrived, Cond.initialized RX2, Cond.code yX2_takeArrived cX2_takeArrived 4 (some (.object "UnionList$Sent")), Cond.fieldLink RX2 21 "UnionList$Post" "size" "I", Cond.fieldLink RX2 15 "UnionList$Post" "waiting" "[LUnionList$Sent;", Cond.fieldLink RX2 25 "UnionList$Sent" "arrival" "I", Cond.methodLink RX5 225 yX5_deliver, Cond.instanceMethod yX5_deliver, Cond.selects RX5 yX5_deliver yX5_deliver, Cond.initialized RX5, Cond.code yX5_deliver cX5_deliver 4 none, Cond.fieldLink RX5 228 "UnionList$Sent" "copy" "LUnionList$Copy;"]
def wsX5_arrivalsOfNextDay_r2 : List Cond := [Cond.fieldLink RX5 229 "UnionList$Sent" "request" "LUnionList$Request;", Cond.fieldLink RX5 233 "UnionList$Sent" "kind" "I", Cond.fieldLink RX5 87 "UnionList$Copy" "knownToList" "I", Cond.methodLink RX5 236 yX5_answerQuestion, Cond.instanceMethod yX5_answerQuestion, Cond.selects RX5 yX5_answerQuestion yX5_answerQuestion, Cond.code yX5_answerQuestion cX5_answerQuestion 3 none, Cond.fieldLink RX5 131 "UnionList$Request" "state" "I", Cond.fieldLink RX5 98 "UnionList$Copy" "onItsWay" "Z", Cond.fieldLink RX5 146 "UnionList$Request" "house" "I", Cond.fieldLink RX5 149 "UnionList$Copy" "home" "I", Cond.methodLink RX5 83 yX1_canBeSent, Cond.instanceMethod yX1_canBeSent, Cond.selects RX1 yX1_canBeSent yX1_canBeSent, Cond.initialized RX1, Cond.code yX1_canBeSent cX1_canBeSent 1 (some .boolean), Cond.fieldLink RX1 34 "UnionList$Copy" "harmKnown" "Z", Cond.methodLink RX1 37 yX1_isAtHome, Cond.instanceMethod yX1_isAtHome, Cond.selects RX1 yX1_isAtHome yX1_isAtHome, Cond.code yX1_isAtHome cX1_isAtHome 1 (some .boolean), Cond.fieldLink RX1 21 "UnionList$Copy" "holder" "I", Cond.fieldLink RX1 15 "UnionList$Copy" "home" "I", Cond.fieldLink RX1 24 "UnionList$Copy" "onItsWay" "Z"]
def wsX5_arrivalsOfNextDay_r3 : List Cond := [Cond.methodLink RX5 123 yX5_askNextHome, Cond.instanceMethod yX5_askNextHome, Cond.selects RX5 yX5_askNextHome yX5_askNextHome, Cond.code yX5_askNextHome cX5_askNextHome 3 none, Cond.fieldLink RX5 134 "UnionList$Request" "copy" "LUnionList$Copy;", Cond.methodLink RX5 252 yX5_nearestListedFree, Cond.instanceMethod yX5_nearestListedFree, Cond.selects RX5 yX5_nearestListedFree yX5_nearestListedFree, Cond.code yX5_nearestListedFree cX5_nearestListedFree 9 (some (.object "UnionList$Copy")), Cond.fieldLink RX5 11 "UnionList" "copies" "[LUnionList$Copy;", Cond.methodLink RX5 259 yX3_mayAskFor, Cond.instanceMethod yX3_mayAskFor, Cond.selects RX3 yX3_mayAskFor yX3_mayAskFor, Cond.initialized RX3, Cond.code yX3_mayAskFor cX3_mayAskFor 3 (some .boolean), Cond.fieldLink RX3 32 "UnionList$Request" "askedHomes" "I", Cond.fieldLink RX3 35 "UnionList$Copy" "home" "I", Cond.fieldLink RX3 40 "UnionList$Copy" "title" "I", Cond.fieldLink RX3 15 "UnionList$Request" "title" "I", Cond.fieldLink RX3 41 "UnionList$Copy" "knownToList" "I", Cond.fieldLink RX3 9 "UnionList$Request" "house" "I", Cond.methodLink RX5 152 yX5_way, Cond.static yX5_way, Cond.code yX5_way cX5_way 2 (some .int)]
def wsX5_arrivalsOfNextDay_r4 : List Cond := [Cond.methodLink RX5 200 Lib.Math.abs.name, Cond.static Lib.Math.abs.name, Cond.initialized "java/lang/Math", Cond.code Lib.Math.abs.name Lib.Math.abs.code 1 (some .int), Cond.methodLink RX5 256 yX3_markAsked, Cond.instanceMethod yX3_markAsked, Cond.selects RX3 yX3_markAsked yX3_markAsked, Cond.code yX3_markAsked cX3_markAsked 2 none, Cond.methodLink RX5 156 yX5_send, Cond.instanceMethod yX5_send, Cond.selects RX5 yX5_send yX5_send, Cond.code yX5_send cX5_send 6 (some .int), Cond.classLink RX5 203 RX4, Cond.instantiable RX4 4, Cond.initialized RX4, Cond.methodLink RX5 205 yX4_init, Cond.instanceMethod yX4_init, Cond.code yX4_init cX4_init 5 none, Cond.methodLink RX4 1 objectInit, Cond.instanceMethod objectInit, Cond.code objectInit ⟨#[0xb1]⟩ 1 none, Cond.fieldLink RX4 7 "UnionList$Sent" "kind" "I", Cond.fieldLink RX4 13 "UnionList$Sent" "arrival" "I", Cond.fieldLink RX4 16 "UnionList$Sent" "copy" "LUnionList$Copy;"]
def wsX5_arrivalsOfNextDay_r5 : List Cond := [Cond.fieldLink RX4 20 "UnionList$Sent" "request" "LUnionList$Request;", Cond.methodLink RX5 208 yX2_put, Cond.instanceMethod yX2_put, Cond.selects RX2 yX2_put yX2_put, Cond.code yX2_put cX2_put 4 none, Cond.methodLink RX5 72 yX5_sendNews, Cond.instanceMethod yX5_sendNews, Cond.selects RX5 yX5_sendNews yX5_sendNews, Cond.code yX5_sendNews cX5_sendNews 3 none, Cond.methodLink RX5 212 yX5_wayToList, Cond.static yX5_wayToList, Cond.code yX5_wayToList cX5_wayToList 1 (some .int), Cond.methodLink RX5 240 yX5_beginLoan, Cond.instanceMethod yX5_beginLoan, Cond.selects RX5 yX5_beginLoan yX5_beginLoan, Cond.code yX5_beginLoan cX5_beginLoan 3 none, Cond.fieldLink RX5 80 "UnionList$Copy" "holder" "I", Cond.fieldLink RX5 143 "UnionList$Request" "dueDay" "I", Cond.methodLink RX5 263 yX0_chargeLoan, Cond.instanceMethod yX0_chargeLoan, Cond.selects RX0 yX0_chargeLoan yX0_chargeLoan, Cond.code yX0_chargeLoan cX0_chargeLoan 3 none, Cond.fieldLink RX0 15 "UnionList$Accounts" "homeCopies" "[I", Cond.static yX5_isHouse]
def wsX5_arrivalsOfNextDay_r6 : List Cond := [Cond.code yX5_isHouse cX5_isHouse 1 (some .boolean), Cond.methodLink RX0 25 yX0_charge, Cond.instanceMethod yX0_charge, Cond.selects RX0 yX0_charge yX0_charge, Cond.code yX0_charge cX0_charge 4 none, Cond.fieldLink RX0 9 "UnionList$Accounts" "debts" "[I", Cond.methodLink RX5 243 yX5_comeHome, Cond.instanceMethod yX5_comeHome, Cond.selects RX5 yX5_comeHome yX5_comeHome, Cond.code yX5_comeHome cX5_comeHome 3 none, Cond.methodLink RX5 104 yX5_examine, Cond.instanceMethod yX5_examine, Cond.selects RX5 yX5_examine yX5_examine, Cond.code yX5_examine cX5_examine 2 (some .int), Cond.fieldLink RX5 111 "UnionList$Copy" "harmKnown" "Z", Cond.fieldLink RX5 95 "UnionList$Copy" "harmedBy" "I", Cond.methodLink RX5 90 yX1_isHarmed, Cond.instanceMethod yX1_isHarmed, Cond.selects RX1 yX1_isHarmed yX1_isHarmed, Cond.code yX1_isHarmed cX1_isHarmed 1 (some .boolean), Cond.fieldLink RX1 31 "UnionList$Copy" "harmedBy" "I", Cond.methodLink RX5 170 yX0_charge, Cond.methodLink RX5 246 yX5_prolong, Cond.instanceMethod yX5_prolong]
def wsX5_arrivalsOfNextDay_r7 : List Cond := [Cond.selects RX5 yX5_prolong yX5_prolong, Cond.code yX5_prolong cX5_prolong 2 none, Cond.fieldLink RX5 160 "UnionList$Request" "recallSent" "Z", Cond.methodLink RX5 249 yX5_shorten, Cond.instanceMethod yX5_shorten, Cond.selects RX5 yX5_shorten yX5_shorten, Cond.code yX5_shorten cX5_shorten 2 none, Cond.methodLink RX5 266 Lib.Math.min.name, Cond.static Lib.Math.min.name, Cond.code Lib.Math.min.name Lib.Math.min.code 2 (some .int)]
def wsX5_arrivalsOfNextDay : List Cond := .code yX5_arrivalsOfNextDay cX5_arrivalsOfNextDay 5 (some .int) :: ((wsX5_arrivalsOfNextDay_r1 ++ (wsX5_arrivalsOfNextDay_r2 ++ (wsX5_arrivalsOfNextDay_r3 ++ (wsX5_arrivalsOfNextDay_r4 ++ (wsX5_arrivalsOfNextDay_r5 ++ (wsX5_arrivalsOfNextDay_r6 ++ wsX5_arrivalsOfNextDay_r7)))))) ++ wsX50 ++ wsX20 ++ wsX00 ++ wsX40 ++ wsX10 ++ wsX30)
def wsX5_pass_r1 : List Cond := [Cond.classLink RX5 54 "java/lang/IllegalArgumentException", Cond.initialized "java/lang/IllegalArgumentException", Cond.methodLink RX5 175 yX5_arrivalsOfNextDay, Cond.instanceMethod yX5_arrivalsOfNextDay, Cond.selects RX5 yX5_arrivalsOfNextDay yX5_arrivalsOfNextDay, Cond.initialized RX5, Cond.code yX5_arrivalsOfNextDay cX5_arrivalsOfNextDay 5 (some .int), Cond.fieldLink RX5 44 "UnionList" "day" "I", Cond.fieldLink RX5 33 "UnionList" "accounts" "LUnionList$Accounts;", Cond.fieldLink RX5 26 "UnionList" "post" "LUnionList$Post;", Cond.fieldLink RX5 218 "UnionList$Post" "size" "I", Cond.methodLink RX5 215 yX0_beginQuarter, Cond.instanceMethod yX0_beginQuarter, Cond.selects RX0 yX0_beginQuarter yX0_beginQuarter, Cond.initialized RX0, Cond.code yX0_beginQuarter cX0_beginQuarter 2 none, Cond.fieldLink RX0 18 "UnionList$Accounts" "freeLoans" "[I", Cond.methodLink RX5 221 yX2_takeArrived, Cond.instanceMethod yX2_takeArrived, Cond.selects RX2 yX2_takeArrived yX2_takeArrived, Cond.initialized RX2, Cond.code yX2_takeArrived cX2_takeArrived 4 (some (.object "UnionList$Sent")), Cond.fieldLink RX2 21 "UnionList$Post" "size" "I", Cond.fieldLink RX2 15 "UnionList$Post" "waiting" "[LUnionList$Sent;"]
def wsX5_pass_r2 : List Cond := [Cond.fieldLink RX2 25 "UnionList$Sent" "arrival" "I", Cond.methodLink RX5 225 yX5_deliver, Cond.instanceMethod yX5_deliver, Cond.selects RX5 yX5_deliver yX5_deliver, Cond.code yX5_deliver cX5_deliver 4 none, Cond.fieldLink RX5 228 "UnionList$Sent" "copy" "LUnionList$Copy;", Cond.fieldLink RX5 229 "UnionList$Sent" "request" "LUnionList$Request;", Cond.fieldLink RX5 233 "UnionList$Sent" "kind" "I", Cond.fieldLink RX5 87 "UnionList$Copy" "knownToList" "I", Cond.methodLink RX5 236 yX5_answerQuestion, Cond.instanceMethod yX5_answerQuestion, Cond.selects RX5 yX5_answerQuestion yX5_answerQuestion, Cond.code yX5_answerQuestion cX5_answerQuestion 3 none, Cond.fieldLink RX5 131 "UnionList$Request" "state" "I", Cond.fieldLink RX5 98 "UnionList$Copy" "onItsWay" "Z", Cond.fieldLink RX5 146 "UnionList$Request" "house" "I", Cond.fieldLink RX5 149 "UnionList$Copy" "home" "I", Cond.methodLink RX5 83 yX1_canBeSent, Cond.instanceMethod yX1_canBeSent, Cond.selects RX1 yX1_canBeSent yX1_canBeSent, Cond.initialized RX1, Cond.code yX1_canBeSent cX1_canBeSent 1 (some .boolean), Cond.fieldLink RX1 34 "UnionList$Copy" "harmKnown" "Z", Cond.methodLink RX1 37 yX1_isAtHome]
def wsX5_pass_r3 : List Cond := [Cond.instanceMethod yX1_isAtHome, Cond.selects RX1 yX1_isAtHome yX1_isAtHome, Cond.code yX1_isAtHome cX1_isAtHome 1 (some .boolean), Cond.fieldLink RX1 21 "UnionList$Copy" "holder" "I", Cond.fieldLink RX1 15 "UnionList$Copy" "home" "I", Cond.fieldLink RX1 24 "UnionList$Copy" "onItsWay" "Z", Cond.methodLink RX5 123 yX5_askNextHome, Cond.instanceMethod yX5_askNextHome, Cond.selects RX5 yX5_askNextHome yX5_askNextHome, Cond.code yX5_askNextHome cX5_askNextHome 3 none, Cond.fieldLink RX5 134 "UnionList$Request" "copy" "LUnionList$Copy;", Cond.methodLink RX5 252 yX5_nearestListedFree, Cond.instanceMethod yX5_nearestListedFree, Cond.selects RX5 yX5_nearestListedFree yX5_nearestListedFree, Cond.code yX5_nearestListedFree cX5_nearestListedFree 9 (some (.object "UnionList$Copy")), Cond.fieldLink RX5 11 "UnionList" "copies" "[LUnionList$Copy;", Cond.methodLink RX5 259 yX3_mayAskFor, Cond.instanceMethod yX3_mayAskFor, Cond.selects RX3 yX3_mayAskFor yX3_mayAskFor, Cond.initialized RX3, Cond.code yX3_mayAskFor cX3_mayAskFor 3 (some .boolean), Cond.fieldLink RX3 32 "UnionList$Request" "askedHomes" "I", Cond.fieldLink RX3 35 "UnionList$Copy" "home" "I", Cond.fieldLink RX3 40 "UnionList$Copy" "title" "I"]
def wsX5_pass_r4 : List Cond := [Cond.fieldLink RX3 15 "UnionList$Request" "title" "I", Cond.fieldLink RX3 41 "UnionList$Copy" "knownToList" "I", Cond.fieldLink RX3 9 "UnionList$Request" "house" "I", Cond.methodLink RX5 152 yX5_way, Cond.static yX5_way, Cond.code yX5_way cX5_way 2 (some .int), Cond.methodLink RX5 200 Lib.Math.abs.name, Cond.static Lib.Math.abs.name, Cond.initialized "java/lang/Math", Cond.code Lib.Math.abs.name Lib.Math.abs.code 1 (some .int), Cond.methodLink RX5 256 yX3_markAsked, Cond.instanceMethod yX3_markAsked, Cond.selects RX3 yX3_markAsked yX3_markAsked, Cond.code yX3_markAsked cX3_markAsked 2 none, Cond.methodLink RX5 156 yX5_send, Cond.instanceMethod yX5_send, Cond.selects RX5 yX5_send yX5_send, Cond.code yX5_send cX5_send 6 (some .int), Cond.classLink RX5 203 RX4, Cond.instantiable RX4 4, Cond.initialized RX4, Cond.methodLink RX5 205 yX4_init, Cond.instanceMethod yX4_init, Cond.code yX4_init cX4_init 5 none]
def wsX5_pass_r5 : List Cond := [Cond.methodLink RX4 1 objectInit, Cond.instanceMethod objectInit, Cond.code objectInit ⟨#[0xb1]⟩ 1 none, Cond.fieldLink RX4 7 "UnionList$Sent" "kind" "I", Cond.fieldLink RX4 13 "UnionList$Sent" "arrival" "I", Cond.fieldLink RX4 16 "UnionList$Sent" "copy" "LUnionList$Copy;", Cond.fieldLink RX4 20 "UnionList$Sent" "request" "LUnionList$Request;", Cond.methodLink RX5 208 yX2_put, Cond.instanceMethod yX2_put, Cond.selects RX2 yX2_put yX2_put, Cond.code yX2_put cX2_put 4 none, Cond.methodLink RX5 72 yX5_sendNews, Cond.instanceMethod yX5_sendNews, Cond.selects RX5 yX5_sendNews yX5_sendNews, Cond.code yX5_sendNews cX5_sendNews 3 none, Cond.methodLink RX5 212 yX5_wayToList, Cond.static yX5_wayToList, Cond.code yX5_wayToList cX5_wayToList 1 (some .int), Cond.methodLink RX5 240 yX5_beginLoan, Cond.instanceMethod yX5_beginLoan, Cond.selects RX5 yX5_beginLoan yX5_beginLoan, Cond.code yX5_beginLoan cX5_beginLoan 3 none, Cond.fieldLink RX5 80 "UnionList$Copy" "holder" "I", Cond.fieldLink RX5 143 "UnionList$Request" "dueDay" "I"]
def wsX5_pass_r6 : List Cond := [Cond.methodLink RX5 263 yX0_chargeLoan, Cond.instanceMethod yX0_chargeLoan, Cond.selects RX0 yX0_chargeLoan yX0_chargeLoan, Cond.code yX0_chargeLoan cX0_chargeLoan 3 none, Cond.fieldLink RX0 15 "UnionList$Accounts" "homeCopies" "[I", Cond.static yX5_isHouse, Cond.code yX5_isHouse cX5_isHouse 1 (some .boolean), Cond.methodLink RX0 25 yX0_charge, Cond.instanceMethod yX0_charge, Cond.selects RX0 yX0_charge yX0_charge, Cond.code yX0_charge cX0_charge 4 none, Cond.fieldLink RX0 9 "UnionList$Accounts" "debts" "[I", Cond.methodLink RX5 243 yX5_comeHome, Cond.instanceMethod yX5_comeHome, Cond.selects RX5 yX5_comeHome yX5_comeHome, Cond.code yX5_comeHome cX5_comeHome 3 none, Cond.methodLink RX5 104 yX5_examine, Cond.instanceMethod yX5_examine, Cond.selects RX5 yX5_examine yX5_examine, Cond.code yX5_examine cX5_examine 2 (some .int), Cond.fieldLink RX5 111 "UnionList$Copy" "harmKnown" "Z", Cond.fieldLink RX5 95 "UnionList$Copy" "harmedBy" "I", Cond.methodLink RX5 90 yX1_isHarmed, Cond.instanceMethod yX1_isHarmed]
def wsX5_pass_r7 : List Cond := [Cond.selects RX1 yX1_isHarmed yX1_isHarmed, Cond.code yX1_isHarmed cX1_isHarmed 1 (some .boolean), Cond.fieldLink RX1 31 "UnionList$Copy" "harmedBy" "I", Cond.methodLink RX5 170 yX0_charge, Cond.methodLink RX5 246 yX5_prolong, Cond.instanceMethod yX5_prolong, Cond.selects RX5 yX5_prolong yX5_prolong, Cond.code yX5_prolong cX5_prolong 2 none, Cond.fieldLink RX5 160 "UnionList$Request" "recallSent" "Z", Cond.methodLink RX5 249 yX5_shorten, Cond.instanceMethod yX5_shorten, Cond.selects RX5 yX5_shorten yX5_shorten, Cond.code yX5_shorten cX5_shorten 2 none, Cond.methodLink RX5 266 Lib.Math.min.name, Cond.static Lib.Math.min.name, Cond.code Lib.Math.min.name Lib.Math.min.code 2 (some .int)]
def wsX5_pass : List Cond := .code yX5_pass cX5_pass 4 (some .int) :: ((wsX5_pass_r1 ++ (wsX5_pass_r2 ++ (wsX5_pass_r3 ++ (wsX5_pass_r4 ++ (wsX5_pass_r5 ++ (wsX5_pass_r6 ++ wsX5_pass_r7)))))) ++ wsX50 ++ wsX20 ++ wsX00 ++ wsX40 ++ wsX10 ++ wsX30 ++ (vx_atS RX5 58 "java/lang/IllegalArgumentException" ["java/lang/RuntimeException", "java/lang/Exception"]).filter goodWord)
def wsX5_today : List Cond := .code yX5_today cX5_today 1 (some .int) :: ([.fieldLink RX5 44 "UnionList" "day" "I"] ++ wsX50)
def wsX5_owes : List Cond := .code yX5_owes cX5_owes 3 (some .int) :: ([.classLink RX5 54 "java/lang/IllegalArgumentException", .initialized "java/lang/IllegalArgumentException", .fieldLink RX5 33 "UnionList" "accounts" "LUnionList$Accounts;", .methodLink RX5 47 yX5_isHouse, .static yX5_isHouse, .initialized RX5, .code yX5_isHouse cX5_isHouse 1 (some .boolean), .methodLink RX5 181 yX0_balance, .instanceMethod yX0_balance, .selects RX0 yX0_balance yX0_balance, .initialized RX0, .code yX0_balance cX0_balance 3 (some .int), .fieldLink RX0 9 "UnionList$Accounts" "debts" "[I"] ++ wsX50 ++ wsX00 ++ (vx_atS RX5 58 "java/lang/IllegalArgumentException" ["java/lang/RuntimeException", "java/lang/Exception"]).filter goodWord)
def wsX5_settle : List Cond := .code yX5_settle cX5_settle 1 (some .int) :: ([.fieldLink RX5 33 "UnionList" "accounts" "LUnionList$Accounts;", .methodLink RX5 184 yX0_clearDebts, .instanceMethod yX0_clearDebts, .selects RX0 yX0_clearDebts yX0_clearDebts, .initialized RX0, .code yX0_clearDebts cX0_clearDebts 4 (some .int), .fieldLink RX0 9 "UnionList$Accounts" "debts" "[I", .methodLink RX0 29 yX0_balance, .instanceMethod yX0_balance, .selects RX0 yX0_balance yX0_balance, .code yX0_balance cX0_balance 3 (some .int), .static yX5_isHouse, .initialized RX5, .code yX5_isHouse cX5_isHouse 1 (some .boolean)] ++ wsX50 ++ wsX00)
def wsX5_quota : List Cond := .code yX5_quota cX5_quota 2 (some .int) :: ([.classLink RX5 54 "java/lang/IllegalArgumentException", .initialized "java/lang/IllegalArgumentException", .fieldLink RX5 33 "UnionList" "accounts" "LUnionList$Accounts;", .methodLink RX5 47 yX5_isHouse, .static yX5_isHouse, .initialized RX5, .code yX5_isHouse cX5_isHouse 1 (some .boolean), .methodLink RX5 189 yX0_freeLoansOf, .instanceMethod yX0_freeLoansOf, .selects RX0 yX0_freeLoansOf yX0_freeLoansOf, .initialized RX0, .code yX0_freeLoansOf cX0_freeLoansOf 2 (some .int), .fieldLink RX0 18 "UnionList$Accounts" "freeLoans" "[I"] ++ wsX50 ++ wsX00 ++ (vx_atS RX5 58 "java/lang/IllegalArgumentException" ["java/lang/RuntimeException", "java/lang/Exception"]).filter goodWord)
def wsX6_init : List Cond := .code yX6_init cX6_init 1 none :: ([.methodLink RX6 1 objectInit, .instanceMethod objectInit, .code objectInit ⟨#[0xb1]⟩ 1 none, .arrayClass .int, .fieldLink RX6 7 "UnionListModel" "home" "[I", .fieldLink RX6 13 "UnionListModel" "title" "[I", .fieldLink RX6 16 "UnionListModel" "place" "[I", .fieldLink RX6 19 "UnionListModel" "hands" "[I", .fieldLink RX6 22 "UnionListModel" "knows" "[I", .fieldLink RX6 25 "UnionListModel" "harmed" "[I", .fieldLink RX6 28 "UnionListModel" "seen" "[I", .fieldLink RX6 31 "UnionListModel" "whose" "[I", .fieldLink RX6 34 "UnionListModel" "wanted" "[I", .fieldLink RX6 37 "UnionListModel" "stage" "[I", .fieldLink RX6 40 "UnionListModel" "loaned" "[I", .fieldLink RX6 43 "UnionListModel" "until" "[I", .fieldLink RX6 46 "UnionListModel" "asked" "[I", .fieldLink RX6 49 "UnionListModel" "called" "[I", .fieldLink RX6 52 "UnionListModel" "kind" "[I", .fieldLink RX6 55 "UnionListModel" "what" "[I", .fieldLink RX6 58 "UnionListModel" "day" "[I", .fieldLink RX6 61 "UnionListModel" "debt" "[I", .fieldLink RX6 64 "UnionListModel" "spared" "[I"] ++ wsX60)
def wsX6_thrown : List Cond := .code yX6_thrown cX6_thrown 1 (some .int) :: ([.fieldLink RX6 67 "UnionListModel" "thrown" "I"] ++ wsX60)
def wsX6_holds : List Cond := .code yX6_holds cX6_holds 2 (some .boolean) :: ([.fieldLink RX6 67 "UnionListModel" "thrown" "I"] ++ wsX60)
def wsX6_plain : List Cond := .code yX6_plain cX6_plain 2 (some .int) :: ([.fieldLink RX6 67 "UnionListModel" "thrown" "I"] ++ wsX60)
def wsX6_between : List Cond := .code yX6_between cX6_between 4 (some .boolean) :: ([])
def wsX6_isHouse : List Cond := .code yX6_isHouse cX6_isHouse 2 (some .boolean) :: ([.methodLink RX6 71 yX6_between, .instanceMethod yX6_between, .selects RX6 yX6_between yX6_between, .initialized RX6, .code yX6_between cX6_between 4 (some .boolean)])
def wsX6_isCopy : List Cond := .code yX6_isCopy cX6_isCopy 2 (some .boolean) :: ([.fieldLink RX6 75 "UnionListModel" "copies" "I", .methodLink RX6 71 yX6_between, .instanceMethod yX6_between, .selects RX6 yX6_between yX6_between, .initialized RX6, .code yX6_between cX6_between 4 (some .boolean)] ++ wsX60)
def wsX6_isRequest : List Cond := .code yX6_isRequest cX6_isRequest 2 (some .boolean) :: ([.fieldLink RX6 78 "UnionListModel" "requests" "I", .methodLink RX6 71 yX6_between, .instanceMethod yX6_between, .selects RX6 yX6_between yX6_between, .initialized RX6, .code yX6_between cX6_between 4 (some .boolean)] ++ wsX60)
def wsX6_way : List Cond := .code yX6_way cX6_way 3 (some .int) :: ([])
def wsX6_send : List Cond := .code yX6_send cX6_send 4 (some .int) :: ([.fieldLink RX6 52 "UnionListModel" "kind" "[I", .fieldLink RX6 81 "UnionListModel" "under" "I", .fieldLink RX6 55 "UnionListModel" "what" "[I", .fieldLink RX6 58 "UnionListModel" "day" "[I", .fieldLink RX6 84 "UnionListModel" "now" "I"] ++ wsX60)
def wsX6_owe : List Cond := .code yX6_owe cX6_owe 4 none :: ([.fieldLink RX6 61 "UnionListModel" "debt" "[I"] ++ wsX60)
def wsX6_free : List Cond := .code yX6_free cX6_free 2 (some .boolean) :: ([.fieldLink RX6 16 "UnionListModel" "place" "[I", .fieldLink RX6 7 "UnionListModel" "home" "[I", .fieldLink RX6 28 "UnionListModel" "seen" "[I"] ++ wsX60)
def wsX6_tell : List Cond := .code yX6_tell cX6_tell 3 none :: ([.fieldLink RX6 7 "UnionListModel" "home" "[I", .methodLink RX6 87 yX6_send, .instanceMethod yX6_send, .selects RX6 yX6_send yX6_send, .initialized RX6, .code yX6_send cX6_send 4 (some .int), .fieldLink RX6 52 "UnionListModel" "kind" "[I", .fieldLink RX6 81 "UnionListModel" "under" "I", .fieldLink RX6 55 "UnionListModel" "what" "[I", .fieldLink RX6 58 "UnionListModel" "day" "[I", .fieldLink RX6 84 "UnionListModel" "now" "I"] ++ wsX60)
def wsX6_addCopy_r1 : List Cond := [Cond.fieldLink RX6 75 "UnionListModel" "copies" "I", Cond.fieldLink RX6 7 "UnionListModel" "home" "[I", Cond.fieldLink RX6 13 "UnionListModel" "title" "[I", Cond.fieldLink RX6 16 "UnionListModel" "place" "[I", Cond.fieldLink RX6 19 "UnionListModel" "hands" "[I", Cond.fieldLink RX6 22 "UnionListModel" "knows" "[I", Cond.fieldLink RX6 25 "UnionListModel" "harmed" "[I", Cond.methodLink RX6 91 yX6_isHouse, Cond.instanceMethod yX6_isHouse, Cond.selects RX6 yX6_isHouse yX6_isHouse, Cond.initialized RX6, Cond.code yX6_isHouse cX6_isHouse 2 (some .boolean), Cond.methodLink RX6 71 yX6_between, Cond.instanceMethod yX6_between, Cond.selects RX6 yX6_between yX6_between, Cond.code yX6_between cX6_between 4 (some .boolean), Cond.methodLink RX6 95 yX6_holds, Cond.instanceMethod yX6_holds, Cond.selects RX6 yX6_holds yX6_holds, Cond.code yX6_holds cX6_holds 2 (some .boolean), Cond.fieldLink RX6 67 "UnionListModel" "thrown" "I", Cond.methodLink RX6 98 yX6_tell, Cond.instanceMethod yX6_tell, Cond.selects RX6 yX6_tell yX6_tell]
def wsX6_addCopy_r2 : List Cond := [Cond.code yX6_tell cX6_tell 3 none, Cond.methodLink RX6 87 yX6_send, Cond.instanceMethod yX6_send, Cond.selects RX6 yX6_send yX6_send, Cond.code yX6_send cX6_send 4 (some .int), Cond.fieldLink RX6 52 "UnionListModel" "kind" "[I", Cond.fieldLink RX6 81 "UnionListModel" "under" "I", Cond.fieldLink RX6 55 "UnionListModel" "what" "[I", Cond.fieldLink RX6 58 "UnionListModel" "day" "[I", Cond.fieldLink RX6 84 "UnionListModel" "now" "I"]
def wsX6_addCopy : List Cond := .code yX6_addCopy cX6_addCopy 3 (some .int) :: ((wsX6_addCopy_r1 ++ wsX6_addCopy_r2) ++ wsX60)
def wsX6_inHandsOf : List Cond := .code yX6_inHandsOf cX6_inHandsOf 2 (some .int) :: ([.fieldLink RX6 19 "UnionListModel" "hands" "[I", .methodLink RX6 102 yX6_isCopy, .instanceMethod yX6_isCopy, .selects RX6 yX6_isCopy yX6_isCopy, .initialized RX6, .code yX6_isCopy cX6_isCopy 2 (some .boolean), .fieldLink RX6 75 "UnionListModel" "copies" "I", .methodLink RX6 71 yX6_between, .instanceMethod yX6_between, .selects RX6 yX6_between yX6_between, .code yX6_between cX6_between 4 (some .boolean), .methodLink RX6 95 yX6_holds, .instanceMethod yX6_holds, .selects RX6 yX6_holds yX6_holds, .code yX6_holds cX6_holds 2 (some .boolean), .fieldLink RX6 67 "UnionListModel" "thrown" "I"] ++ wsX60)
def wsX6_isFree : List Cond := .code yX6_isFree cX6_isFree 2 (some .boolean) :: ([.methodLink RX6 102 yX6_isCopy, .instanceMethod yX6_isCopy, .selects RX6 yX6_isCopy yX6_isCopy, .initialized RX6, .code yX6_isCopy cX6_isCopy 2 (some .boolean), .fieldLink RX6 75 "UnionListModel" "copies" "I", .methodLink RX6 71 yX6_between, .instanceMethod yX6_between, .selects RX6 yX6_between yX6_between, .code yX6_between cX6_between 4 (some .boolean), .methodLink RX6 95 yX6_holds, .instanceMethod yX6_holds, .selects RX6 yX6_holds yX6_holds, .code yX6_holds cX6_holds 2 (some .boolean), .fieldLink RX6 67 "UnionListModel" "thrown" "I", .methodLink RX6 105 yX6_free, .instanceMethod yX6_free, .selects RX6 yX6_free yX6_free, .code yX6_free cX6_free 2 (some .boolean), .fieldLink RX6 16 "UnionListModel" "place" "[I", .fieldLink RX6 7 "UnionListModel" "home" "[I", .fieldLink RX6 28 "UnionListModel" "seen" "[I"] ++ wsX60)
def wsX6_listed : List Cond := .code yX6_listed cX6_listed 2 (some .int) :: ([.fieldLink RX6 22 "UnionListModel" "knows" "[I", .methodLink RX6 102 yX6_isCopy, .instanceMethod yX6_isCopy, .selects RX6 yX6_isCopy yX6_isCopy, .initialized RX6, .code yX6_isCopy cX6_isCopy 2 (some .boolean), .fieldLink RX6 75 "UnionListModel" "copies" "I", .methodLink RX6 71 yX6_between, .instanceMethod yX6_between, .selects RX6 yX6_between yX6_between, .code yX6_between cX6_between 4 (some .boolean), .methodLink RX6 95 yX6_holds, .instanceMethod yX6_holds, .selects RX6 yX6_holds yX6_holds, .code yX6_holds cX6_holds 2 (some .boolean), .fieldLink RX6 67 "UnionListModel" "thrown" "I"] ++ wsX60)
def wsX6_harm : List Cond := .code yX6_harm cX6_harm 2 (some .int) :: ([.fieldLink RX6 25 "UnionListModel" "harmed" "[I", .fieldLink RX6 19 "UnionListModel" "hands" "[I", .methodLink RX6 102 yX6_isCopy, .instanceMethod yX6_isCopy, .selects RX6 yX6_isCopy yX6_isCopy, .initialized RX6, .code yX6_isCopy cX6_isCopy 2 (some .boolean), .fieldLink RX6 75 "UnionListModel" "copies" "I", .methodLink RX6 71 yX6_between, .instanceMethod yX6_between, .selects RX6 yX6_between yX6_between, .code yX6_between cX6_between 4 (some .boolean), .methodLink RX6 95 yX6_holds, .instanceMethod yX6_holds, .selects RX6 yX6_holds yX6_holds, .code yX6_holds cX6_holds 2 (some .boolean), .fieldLink RX6 67 "UnionListModel" "thrown" "I"] ++ wsX60)
def wsX6_find : List Cond := .code yX6_find cX6_find 2 (some .int) :: ([.fieldLink RX6 25 "UnionListModel" "harmed" "[I", .fieldLink RX6 28 "UnionListModel" "seen" "[I", .fieldLink RX6 7 "UnionListModel" "home" "[I", .methodLink RX6 108 yX6_owe, .instanceMethod yX6_owe, .selects RX6 yX6_owe yX6_owe, .initialized RX6, .code yX6_owe cX6_owe 4 none, .fieldLink RX6 61 "UnionListModel" "debt" "[I"] ++ wsX60)
def wsX6_look_r1 : List Cond := [Cond.fieldLink RX6 16 "UnionListModel" "place" "[I", Cond.methodLink RX6 102 yX6_isCopy, Cond.instanceMethod yX6_isCopy, Cond.selects RX6 yX6_isCopy yX6_isCopy, Cond.initialized RX6, Cond.code yX6_isCopy cX6_isCopy 2 (some .boolean), Cond.fieldLink RX6 75 "UnionListModel" "copies" "I", Cond.methodLink RX6 71 yX6_between, Cond.instanceMethod yX6_between, Cond.selects RX6 yX6_between yX6_between, Cond.code yX6_between cX6_between 4 (some .boolean), Cond.methodLink RX6 95 yX6_holds, Cond.instanceMethod yX6_holds, Cond.selects RX6 yX6_holds yX6_holds, Cond.code yX6_holds cX6_holds 2 (some .boolean), Cond.fieldLink RX6 67 "UnionListModel" "thrown" "I", Cond.methodLink RX6 112 yX6_find, Cond.instanceMethod yX6_find, Cond.selects RX6 yX6_find yX6_find, Cond.code yX6_find cX6_find 2 (some .int), Cond.fieldLink RX6 25 "UnionListModel" "harmed" "[I", Cond.fieldLink RX6 28 "UnionListModel" "seen" "[I", Cond.fieldLink RX6 7 "UnionListModel" "home" "[I", Cond.methodLink RX6 108 yX6_owe]
def wsX6_look_r2 : List Cond := [Cond.instanceMethod yX6_owe, Cond.selects RX6 yX6_owe yX6_owe, Cond.code yX6_owe cX6_owe 4 none, Cond.fieldLink RX6 61 "UnionListModel" "debt" "[I"]
def wsX6_look : List Cond := .code yX6_look cX6_look 2 (some .int) :: ((wsX6_look_r1 ++ wsX6_look_r2) ++ wsX60)
def wsX6_mend_r1 : List Cond := [Cond.fieldLink RX6 16 "UnionListModel" "place" "[I", Cond.fieldLink RX6 7 "UnionListModel" "home" "[I", Cond.fieldLink RX6 28 "UnionListModel" "seen" "[I", Cond.fieldLink RX6 25 "UnionListModel" "harmed" "[I", Cond.methodLink RX6 102 yX6_isCopy, Cond.instanceMethod yX6_isCopy, Cond.selects RX6 yX6_isCopy yX6_isCopy, Cond.initialized RX6, Cond.code yX6_isCopy cX6_isCopy 2 (some .boolean), Cond.fieldLink RX6 75 "UnionListModel" "copies" "I", Cond.methodLink RX6 71 yX6_between, Cond.instanceMethod yX6_between, Cond.selects RX6 yX6_between yX6_between, Cond.code yX6_between cX6_between 4 (some .boolean), Cond.methodLink RX6 95 yX6_holds, Cond.instanceMethod yX6_holds, Cond.selects RX6 yX6_holds yX6_holds, Cond.code yX6_holds cX6_holds 2 (some .boolean), Cond.fieldLink RX6 67 "UnionListModel" "thrown" "I", Cond.methodLink RX6 98 yX6_tell, Cond.instanceMethod yX6_tell, Cond.selects RX6 yX6_tell yX6_tell, Cond.code yX6_tell cX6_tell 3 none, Cond.methodLink RX6 87 yX6_send]
def wsX6_mend_r2 : List Cond := [Cond.instanceMethod yX6_send, Cond.selects RX6 yX6_send yX6_send, Cond.code yX6_send cX6_send 4 (some .int), Cond.fieldLink RX6 52 "UnionListModel" "kind" "[I", Cond.fieldLink RX6 81 "UnionListModel" "under" "I", Cond.fieldLink RX6 55 "UnionListModel" "what" "[I", Cond.fieldLink RX6 58 "UnionListModel" "day" "[I", Cond.fieldLink RX6 84 "UnionListModel" "now" "I"]
def wsX6_mend : List Cond := .code yX6_mend cX6_mend 2 none :: ((wsX6_mend_r1 ++ wsX6_mend_r2) ++ wsX60)
def wsX6_ask : List Cond := .code yX6_ask cX6_ask 5 none :: ([.fieldLink RX6 75 "UnionListModel" "copies" "I", .fieldLink RX6 13 "UnionListModel" "title" "[I", .fieldLink RX6 34 "UnionListModel" "wanted" "[I", .fieldLink RX6 22 "UnionListModel" "knows" "[I", .fieldLink RX6 7 "UnionListModel" "home" "[I", .fieldLink RX6 31 "UnionListModel" "whose" "[I", .fieldLink RX6 46 "UnionListModel" "asked" "[I", .fieldLink RX6 40 "UnionListModel" "loaned" "[I", .fieldLink RX6 37 "UnionListModel" "stage" "[I", .methodLink RX6 116 yX6_way, .instanceMethod yX6_way, .selects RX6 yX6_way yX6_way, .initialized RX6, .code yX6_way cX6_way 3 (some .int), .methodLink RX6 87 yX6_send, .instanceMethod yX6_send, .selects RX6 yX6_send yX6_send, .code yX6_send cX6_send 4 (some .int), .fieldLink RX6 52 "UnionListModel" "kind" "[I", .fieldLink RX6 81 "UnionListModel" "under" "I", .fieldLink RX6 55 "UnionListModel" "what" "[I", .fieldLink RX6 58 "UnionListModel" "day" "[I", .fieldLink RX6 84 "UnionListModel" "now" "I"] ++ wsX60)
def wsX6_request_r1 : List Cond := [Cond.fieldLink RX6 78 "UnionListModel" "requests" "I", Cond.fieldLink RX6 31 "UnionListModel" "whose" "[I", Cond.fieldLink RX6 34 "UnionListModel" "wanted" "[I", Cond.methodLink RX6 91 yX6_isHouse, Cond.instanceMethod yX6_isHouse, Cond.selects RX6 yX6_isHouse yX6_isHouse, Cond.initialized RX6, Cond.code yX6_isHouse cX6_isHouse 2 (some .boolean), Cond.methodLink RX6 71 yX6_between, Cond.instanceMethod yX6_between, Cond.selects RX6 yX6_between yX6_between, Cond.code yX6_between cX6_between 4 (some .boolean), Cond.methodLink RX6 95 yX6_holds, Cond.instanceMethod yX6_holds, Cond.selects RX6 yX6_holds yX6_holds, Cond.code yX6_holds cX6_holds 2 (some .boolean), Cond.fieldLink RX6 67 "UnionListModel" "thrown" "I", Cond.methodLink RX6 120 yX6_ask, Cond.instanceMethod yX6_ask, Cond.selects RX6 yX6_ask yX6_ask, Cond.code yX6_ask cX6_ask 5 none, Cond.fieldLink RX6 75 "UnionListModel" "copies" "I", Cond.fieldLink RX6 13 "UnionListModel" "title" "[I", Cond.fieldLink RX6 22 "UnionListModel" "knows" "[I"]
def wsX6_request_r2 : List Cond := [Cond.fieldLink RX6 7 "UnionListModel" "home" "[I", Cond.fieldLink RX6 46 "UnionListModel" "asked" "[I", Cond.fieldLink RX6 40 "UnionListModel" "loaned" "[I", Cond.fieldLink RX6 37 "UnionListModel" "stage" "[I", Cond.methodLink RX6 116 yX6_way, Cond.instanceMethod yX6_way, Cond.selects RX6 yX6_way yX6_way, Cond.code yX6_way cX6_way 3 (some .int), Cond.methodLink RX6 87 yX6_send, Cond.instanceMethod yX6_send, Cond.selects RX6 yX6_send yX6_send, Cond.code yX6_send cX6_send 4 (some .int), Cond.fieldLink RX6 52 "UnionListModel" "kind" "[I", Cond.fieldLink RX6 81 "UnionListModel" "under" "I", Cond.fieldLink RX6 55 "UnionListModel" "what" "[I", Cond.fieldLink RX6 58 "UnionListModel" "day" "[I", Cond.fieldLink RX6 84 "UnionListModel" "now" "I"]
def wsX6_request : List Cond := .code yX6_request cX6_request 3 (some .int) :: ((wsX6_request_r1 ++ wsX6_request_r2) ++ wsX60)
def wsX6_state : List Cond := .code yX6_state cX6_state 2 (some .int) :: ([.fieldLink RX6 37 "UnionListModel" "stage" "[I", .methodLink RX6 124 yX6_isRequest, .instanceMethod yX6_isRequest, .selects RX6 yX6_isRequest yX6_isRequest, .initialized RX6, .code yX6_isRequest cX6_isRequest 2 (some .boolean), .fieldLink RX6 78 "UnionListModel" "requests" "I", .methodLink RX6 71 yX6_between, .instanceMethod yX6_between, .selects RX6 yX6_between yX6_between, .code yX6_between cX6_between 4 (some .boolean), .methodLink RX6 95 yX6_holds, .instanceMethod yX6_holds, .selects RX6 yX6_holds yX6_holds, .code yX6_holds cX6_holds 2 (some .boolean), .fieldLink RX6 67 "UnionListModel" "thrown" "I"] ++ wsX60)
def wsX6_copyOf : List Cond := .code yX6_copyOf cX6_copyOf 2 (some .int) :: ([.fieldLink RX6 40 "UnionListModel" "loaned" "[I", .methodLink RX6 124 yX6_isRequest, .instanceMethod yX6_isRequest, .selects RX6 yX6_isRequest yX6_isRequest, .initialized RX6, .code yX6_isRequest cX6_isRequest 2 (some .boolean), .fieldLink RX6 78 "UnionListModel" "requests" "I", .methodLink RX6 71 yX6_between, .instanceMethod yX6_between, .selects RX6 yX6_between yX6_between, .code yX6_between cX6_between 4 (some .boolean), .methodLink RX6 95 yX6_holds, .instanceMethod yX6_holds, .selects RX6 yX6_holds yX6_holds, .code yX6_holds cX6_holds 2 (some .boolean), .fieldLink RX6 67 "UnionListModel" "thrown" "I"] ++ wsX60)
def wsX6_refuses : List Cond := .code yX6_refuses cX6_refuses 2 (some .int) :: ([.fieldLink RX6 37 "UnionListModel" "stage" "[I", .methodLink RX6 124 yX6_isRequest, .instanceMethod yX6_isRequest, .selects RX6 yX6_isRequest yX6_isRequest, .initialized RX6, .code yX6_isRequest cX6_isRequest 2 (some .boolean), .fieldLink RX6 78 "UnionListModel" "requests" "I", .methodLink RX6 71 yX6_between, .instanceMethod yX6_between, .selects RX6 yX6_between yX6_between, .code yX6_between cX6_between 4 (some .boolean)] ++ wsX60)
def wsX6_due : List Cond := .code yX6_due cX6_due 2 (some .int) :: ([.fieldLink RX6 43 "UnionListModel" "until" "[I", .methodLink RX6 127 yX6_refuses, .instanceMethod yX6_refuses, .selects RX6 yX6_refuses yX6_refuses, .initialized RX6, .code yX6_refuses cX6_refuses 2 (some .int), .fieldLink RX6 37 "UnionListModel" "stage" "[I", .methodLink RX6 124 yX6_isRequest, .instanceMethod yX6_isRequest, .selects RX6 yX6_isRequest yX6_isRequest, .code yX6_isRequest cX6_isRequest 2 (some .boolean), .fieldLink RX6 78 "UnionListModel" "requests" "I", .methodLink RX6 71 yX6_between, .instanceMethod yX6_between, .selects RX6 yX6_between yX6_between, .code yX6_between cX6_between 4 (some .boolean), .methodLink RX6 95 yX6_holds, .instanceMethod yX6_holds, .selects RX6 yX6_holds yX6_holds, .code yX6_holds cX6_holds 2 (some .boolean), .fieldLink RX6 67 "UnionListModel" "thrown" "I"] ++ wsX60)
def wsX6_length : List Cond := .code yX6_length cX6_length 2 (some .int) :: ([.fieldLink RX6 31 "UnionListModel" "whose" "[I", .fieldLink RX6 7 "UnionListModel" "home" "[I", .fieldLink RX6 40 "UnionListModel" "loaned" "[I", .methodLink RX6 116 yX6_way, .instanceMethod yX6_way, .selects RX6 yX6_way yX6_way, .initialized RX6, .code yX6_way cX6_way 3 (some .int)] ++ wsX60)
def wsX6_renew_r1 : List Cond := [Cond.methodLink RX6 127 yX6_refuses, Cond.instanceMethod yX6_refuses, Cond.selects RX6 yX6_refuses yX6_refuses, Cond.initialized RX6, Cond.code yX6_refuses cX6_refuses 2 (some .int), Cond.fieldLink RX6 37 "UnionListModel" "stage" "[I", Cond.methodLink RX6 124 yX6_isRequest, Cond.instanceMethod yX6_isRequest, Cond.selects RX6 yX6_isRequest yX6_isRequest, Cond.code yX6_isRequest cX6_isRequest 2 (some .boolean), Cond.fieldLink RX6 78 "UnionListModel" "requests" "I", Cond.methodLink RX6 71 yX6_between, Cond.instanceMethod yX6_between, Cond.selects RX6 yX6_between yX6_between, Cond.code yX6_between cX6_between 4 (some .boolean), Cond.methodLink RX6 95 yX6_holds, Cond.instanceMethod yX6_holds, Cond.selects RX6 yX6_holds yX6_holds, Cond.code yX6_holds cX6_holds 2 (some .boolean), Cond.fieldLink RX6 67 "UnionListModel" "thrown" "I", Cond.methodLink RX6 130 yX6_length, Cond.instanceMethod yX6_length, Cond.selects RX6 yX6_length yX6_length, Cond.code yX6_length cX6_length 2 (some .int)]
def wsX6_renew_r2 : List Cond := [Cond.fieldLink RX6 31 "UnionListModel" "whose" "[I", Cond.fieldLink RX6 7 "UnionListModel" "home" "[I", Cond.fieldLink RX6 40 "UnionListModel" "loaned" "[I", Cond.methodLink RX6 116 yX6_way, Cond.instanceMethod yX6_way, Cond.selects RX6 yX6_way yX6_way, Cond.code yX6_way cX6_way 3 (some .int), Cond.methodLink RX6 87 yX6_send, Cond.instanceMethod yX6_send, Cond.selects RX6 yX6_send yX6_send, Cond.code yX6_send cX6_send 4 (some .int), Cond.fieldLink RX6 52 "UnionListModel" "kind" "[I", Cond.fieldLink RX6 81 "UnionListModel" "under" "I", Cond.fieldLink RX6 55 "UnionListModel" "what" "[I", Cond.fieldLink RX6 58 "UnionListModel" "day" "[I", Cond.fieldLink RX6 84 "UnionListModel" "now" "I"]
def wsX6_renew : List Cond := .code yX6_renew cX6_renew 2 (some .int) :: ((wsX6_renew_r1 ++ wsX6_renew_r2) ++ wsX60)
def wsX6_recall_r1 : List Cond := [Cond.fieldLink RX6 49 "UnionListModel" "called" "[I", Cond.methodLink RX6 127 yX6_refuses, Cond.instanceMethod yX6_refuses, Cond.selects RX6 yX6_refuses yX6_refuses, Cond.initialized RX6, Cond.code yX6_refuses cX6_refuses 2 (some .int), Cond.fieldLink RX6 37 "UnionListModel" "stage" "[I", Cond.methodLink RX6 124 yX6_isRequest, Cond.instanceMethod yX6_isRequest, Cond.selects RX6 yX6_isRequest yX6_isRequest, Cond.code yX6_isRequest cX6_isRequest 2 (some .boolean), Cond.fieldLink RX6 78 "UnionListModel" "requests" "I", Cond.methodLink RX6 71 yX6_between, Cond.instanceMethod yX6_between, Cond.selects RX6 yX6_between yX6_between, Cond.code yX6_between cX6_between 4 (some .boolean), Cond.methodLink RX6 95 yX6_holds, Cond.instanceMethod yX6_holds, Cond.selects RX6 yX6_holds yX6_holds, Cond.code yX6_holds cX6_holds 2 (some .boolean), Cond.fieldLink RX6 67 "UnionListModel" "thrown" "I", Cond.methodLink RX6 130 yX6_length, Cond.instanceMethod yX6_length, Cond.selects RX6 yX6_length yX6_length]
def wsX6_recall_r2 : List Cond := [Cond.code yX6_length cX6_length 2 (some .int), Cond.fieldLink RX6 31 "UnionListModel" "whose" "[I", Cond.fieldLink RX6 7 "UnionListModel" "home" "[I", Cond.fieldLink RX6 40 "UnionListModel" "loaned" "[I", Cond.methodLink RX6 116 yX6_way, Cond.instanceMethod yX6_way, Cond.selects RX6 yX6_way yX6_way, Cond.code yX6_way cX6_way 3 (some .int), Cond.methodLink RX6 87 yX6_send, Cond.instanceMethod yX6_send, Cond.selects RX6 yX6_send yX6_send, Cond.code yX6_send cX6_send 4 (some .int), Cond.fieldLink RX6 52 "UnionListModel" "kind" "[I", Cond.fieldLink RX6 81 "UnionListModel" "under" "I", Cond.fieldLink RX6 55 "UnionListModel" "what" "[I", Cond.fieldLink RX6 58 "UnionListModel" "day" "[I", Cond.fieldLink RX6 84 "UnionListModel" "now" "I"]
def wsX6_recall : List Cond := .code yX6_recall cX6_recall 2 (some .int) :: ((wsX6_recall_r1 ++ wsX6_recall_r2) ++ wsX60)
def wsX6_sendBack_r1 : List Cond := [Cond.fieldLink RX6 84 "UnionListModel" "now" "I", Cond.fieldLink RX6 43 "UnionListModel" "until" "[I", Cond.fieldLink RX6 40 "UnionListModel" "loaned" "[I", Cond.fieldLink RX6 31 "UnionListModel" "whose" "[I", Cond.fieldLink RX6 7 "UnionListModel" "home" "[I", Cond.fieldLink RX6 37 "UnionListModel" "stage" "[I", Cond.fieldLink RX6 16 "UnionListModel" "place" "[I", Cond.methodLink RX6 127 yX6_refuses, Cond.instanceMethod yX6_refuses, Cond.selects RX6 yX6_refuses yX6_refuses, Cond.initialized RX6, Cond.code yX6_refuses cX6_refuses 2 (some .int), Cond.methodLink RX6 124 yX6_isRequest, Cond.instanceMethod yX6_isRequest, Cond.selects RX6 yX6_isRequest yX6_isRequest, Cond.code yX6_isRequest cX6_isRequest 2 (some .boolean), Cond.fieldLink RX6 78 "UnionListModel" "requests" "I", Cond.methodLink RX6 71 yX6_between, Cond.instanceMethod yX6_between, Cond.selects RX6 yX6_between yX6_between, Cond.code yX6_between cX6_between 4 (some .boolean), Cond.methodLink RX6 95 yX6_holds, Cond.instanceMethod yX6_holds, Cond.selects RX6 yX6_holds yX6_holds]
def wsX6_sendBack_r2 : List Cond := [Cond.code yX6_holds cX6_holds 2 (some .boolean), Cond.fieldLink RX6 67 "UnionListModel" "thrown" "I", Cond.methodLink RX6 108 yX6_owe, Cond.instanceMethod yX6_owe, Cond.selects RX6 yX6_owe yX6_owe, Cond.code yX6_owe cX6_owe 4 none, Cond.fieldLink RX6 61 "UnionListModel" "debt" "[I", Cond.methodLink RX6 130 yX6_length, Cond.instanceMethod yX6_length, Cond.selects RX6 yX6_length yX6_length, Cond.code yX6_length cX6_length 2 (some .int), Cond.methodLink RX6 116 yX6_way, Cond.instanceMethod yX6_way, Cond.selects RX6 yX6_way yX6_way, Cond.code yX6_way cX6_way 3 (some .int), Cond.methodLink RX6 87 yX6_send, Cond.instanceMethod yX6_send, Cond.selects RX6 yX6_send yX6_send, Cond.code yX6_send cX6_send 4 (some .int), Cond.fieldLink RX6 52 "UnionListModel" "kind" "[I", Cond.fieldLink RX6 81 "UnionListModel" "under" "I", Cond.fieldLink RX6 55 "UnionListModel" "what" "[I", Cond.fieldLink RX6 58 "UnionListModel" "day" "[I"]
def wsX6_sendBack : List Cond := .code yX6_sendBack cX6_sendBack 4 (some .int) :: ((wsX6_sendBack_r1 ++ wsX6_sendBack_r2) ++ wsX60)
def wsX6_homes : List Cond := .code yX6_homes cX6_homes 4 (some .int) :: ([.fieldLink RX6 75 "UnionListModel" "copies" "I", .fieldLink RX6 7 "UnionListModel" "home" "[I"] ++ wsX60)
def wsX6_answer_r1 : List Cond := [Cond.fieldLink RX6 40 "UnionListModel" "loaned" "[I", Cond.fieldLink RX6 16 "UnionListModel" "place" "[I", Cond.fieldLink RX6 37 "UnionListModel" "stage" "[I", Cond.methodLink RX6 105 yX6_free, Cond.instanceMethod yX6_free, Cond.selects RX6 yX6_free yX6_free, Cond.initialized RX6, Cond.code yX6_free cX6_free 2 (some .boolean), Cond.fieldLink RX6 7 "UnionListModel" "home" "[I", Cond.fieldLink RX6 28 "UnionListModel" "seen" "[I", Cond.methodLink RX6 120 yX6_ask, Cond.instanceMethod yX6_ask, Cond.selects RX6 yX6_ask yX6_ask, Cond.code yX6_ask cX6_ask 5 none, Cond.fieldLink RX6 75 "UnionListModel" "copies" "I", Cond.fieldLink RX6 13 "UnionListModel" "title" "[I", Cond.fieldLink RX6 34 "UnionListModel" "wanted" "[I", Cond.fieldLink RX6 22 "UnionListModel" "knows" "[I", Cond.fieldLink RX6 31 "UnionListModel" "whose" "[I", Cond.fieldLink RX6 46 "UnionListModel" "asked" "[I", Cond.methodLink RX6 116 yX6_way, Cond.instanceMethod yX6_way, Cond.selects RX6 yX6_way yX6_way, Cond.code yX6_way cX6_way 3 (some .int)]
def wsX6_answer_r2 : List Cond := [Cond.methodLink RX6 87 yX6_send, Cond.instanceMethod yX6_send, Cond.selects RX6 yX6_send yX6_send, Cond.code yX6_send cX6_send 4 (some .int), Cond.fieldLink RX6 52 "UnionListModel" "kind" "[I", Cond.fieldLink RX6 81 "UnionListModel" "under" "I", Cond.fieldLink RX6 55 "UnionListModel" "what" "[I", Cond.fieldLink RX6 58 "UnionListModel" "day" "[I", Cond.fieldLink RX6 84 "UnionListModel" "now" "I", Cond.methodLink RX6 130 yX6_length, Cond.instanceMethod yX6_length, Cond.selects RX6 yX6_length yX6_length, Cond.code yX6_length cX6_length 2 (some .int), Cond.methodLink RX6 98 yX6_tell, Cond.instanceMethod yX6_tell, Cond.selects RX6 yX6_tell yX6_tell, Cond.code yX6_tell cX6_tell 3 none]
def wsX6_answer : List Cond := .code yX6_answer cX6_answer 3 none :: ((wsX6_answer_r1 ++ wsX6_answer_r2) ++ wsX60)
def wsX6_come_r1 : List Cond := [Cond.fieldLink RX6 40 "UnionListModel" "loaned" "[I", Cond.fieldLink RX6 31 "UnionListModel" "whose" "[I", Cond.fieldLink RX6 37 "UnionListModel" "stage" "[I", Cond.fieldLink RX6 64 "UnionListModel" "spared" "[I", Cond.fieldLink RX6 7 "UnionListModel" "home" "[I", Cond.fieldLink RX6 16 "UnionListModel" "place" "[I", Cond.fieldLink RX6 19 "UnionListModel" "hands" "[I", Cond.fieldLink RX6 43 "UnionListModel" "until" "[I", Cond.fieldLink RX6 84 "UnionListModel" "now" "I", Cond.methodLink RX6 133 yX6_homes, Cond.instanceMethod yX6_homes, Cond.selects RX6 yX6_homes yX6_homes, Cond.initialized RX6, Cond.code yX6_homes cX6_homes 4 (some .int), Cond.fieldLink RX6 75 "UnionListModel" "copies" "I", Cond.methodLink RX6 108 yX6_owe, Cond.instanceMethod yX6_owe, Cond.selects RX6 yX6_owe yX6_owe, Cond.code yX6_owe cX6_owe 4 none, Cond.fieldLink RX6 61 "UnionListModel" "debt" "[I", Cond.methodLink RX6 112 yX6_find, Cond.instanceMethod yX6_find, Cond.selects RX6 yX6_find yX6_find, Cond.code yX6_find cX6_find 2 (some .int)]
def wsX6_come_r2 : List Cond := [Cond.fieldLink RX6 25 "UnionListModel" "harmed" "[I", Cond.fieldLink RX6 28 "UnionListModel" "seen" "[I", Cond.methodLink RX6 105 yX6_free, Cond.instanceMethod yX6_free, Cond.selects RX6 yX6_free yX6_free, Cond.code yX6_free cX6_free 2 (some .boolean), Cond.methodLink RX6 98 yX6_tell, Cond.instanceMethod yX6_tell, Cond.selects RX6 yX6_tell yX6_tell, Cond.code yX6_tell cX6_tell 3 none, Cond.methodLink RX6 87 yX6_send, Cond.instanceMethod yX6_send, Cond.selects RX6 yX6_send yX6_send, Cond.code yX6_send cX6_send 4 (some .int), Cond.fieldLink RX6 52 "UnionListModel" "kind" "[I", Cond.fieldLink RX6 81 "UnionListModel" "under" "I", Cond.fieldLink RX6 55 "UnionListModel" "what" "[I", Cond.fieldLink RX6 58 "UnionListModel" "day" "[I"]
def wsX6_come : List Cond := .code yX6_come cX6_come 5 none :: ((wsX6_come_r1 ++ wsX6_come_r2) ++ wsX60)
def wsX6_arrive_r1 : List Cond := [Cond.fieldLink RX6 22 "UnionListModel" "knows" "[I", Cond.fieldLink RX6 43 "UnionListModel" "until" "[I", Cond.fieldLink RX6 37 "UnionListModel" "stage" "[I", Cond.fieldLink RX6 49 "UnionListModel" "called" "[I", Cond.fieldLink RX6 84 "UnionListModel" "now" "I", Cond.methodLink RX6 136 yX6_answer, Cond.instanceMethod yX6_answer, Cond.selects RX6 yX6_answer yX6_answer, Cond.initialized RX6, Cond.code yX6_answer cX6_answer 3 none, Cond.fieldLink RX6 40 "UnionListModel" "loaned" "[I", Cond.fieldLink RX6 16 "UnionListModel" "place" "[I", Cond.methodLink RX6 105 yX6_free, Cond.instanceMethod yX6_free, Cond.selects RX6 yX6_free yX6_free, Cond.code yX6_free cX6_free 2 (some .boolean), Cond.fieldLink RX6 7 "UnionListModel" "home" "[I", Cond.fieldLink RX6 28 "UnionListModel" "seen" "[I", Cond.methodLink RX6 120 yX6_ask, Cond.instanceMethod yX6_ask, Cond.selects RX6 yX6_ask yX6_ask, Cond.code yX6_ask cX6_ask 5 none, Cond.fieldLink RX6 75 "UnionListModel" "copies" "I", Cond.fieldLink RX6 13 "UnionListModel" "title" "[I"]
def wsX6_arrive_r2 : List Cond := [Cond.fieldLink RX6 34 "UnionListModel" "wanted" "[I", Cond.fieldLink RX6 31 "UnionListModel" "whose" "[I", Cond.fieldLink RX6 46 "UnionListModel" "asked" "[I", Cond.methodLink RX6 116 yX6_way, Cond.instanceMethod yX6_way, Cond.selects RX6 yX6_way yX6_way, Cond.code yX6_way cX6_way 3 (some .int), Cond.methodLink RX6 87 yX6_send, Cond.instanceMethod yX6_send, Cond.selects RX6 yX6_send yX6_send, Cond.code yX6_send cX6_send 4 (some .int), Cond.fieldLink RX6 52 "UnionListModel" "kind" "[I", Cond.fieldLink RX6 81 "UnionListModel" "under" "I", Cond.fieldLink RX6 55 "UnionListModel" "what" "[I", Cond.fieldLink RX6 58 "UnionListModel" "day" "[I", Cond.methodLink RX6 130 yX6_length, Cond.instanceMethod yX6_length, Cond.selects RX6 yX6_length yX6_length, Cond.code yX6_length cX6_length 2 (some .int), Cond.methodLink RX6 98 yX6_tell, Cond.instanceMethod yX6_tell, Cond.selects RX6 yX6_tell yX6_tell, Cond.code yX6_tell cX6_tell 3 none, Cond.methodLink RX6 139 yX6_come]
def wsX6_arrive_r3 : List Cond := [Cond.instanceMethod yX6_come, Cond.selects RX6 yX6_come yX6_come, Cond.code yX6_come cX6_come 5 none, Cond.fieldLink RX6 64 "UnionListModel" "spared" "[I", Cond.fieldLink RX6 19 "UnionListModel" "hands" "[I", Cond.methodLink RX6 133 yX6_homes, Cond.instanceMethod yX6_homes, Cond.selects RX6 yX6_homes yX6_homes, Cond.code yX6_homes cX6_homes 4 (some .int), Cond.methodLink RX6 108 yX6_owe, Cond.instanceMethod yX6_owe, Cond.selects RX6 yX6_owe yX6_owe, Cond.code yX6_owe cX6_owe 4 none, Cond.fieldLink RX6 61 "UnionListModel" "debt" "[I", Cond.methodLink RX6 112 yX6_find, Cond.instanceMethod yX6_find, Cond.selects RX6 yX6_find yX6_find, Cond.code yX6_find cX6_find 2 (some .int), Cond.fieldLink RX6 25 "UnionListModel" "harmed" "[I"]
def wsX6_arrive : List Cond := .code yX6_arrive cX6_arrive 3 none :: ((wsX6_arrive_r1 ++ (wsX6_arrive_r2 ++ wsX6_arrive_r3)) ++ wsX60)
def wsX6_arriveAll_r1 : List Cond := [Cond.fieldLink RX6 81 "UnionListModel" "under" "I", Cond.fieldLink RX6 58 "UnionListModel" "day" "[I", Cond.fieldLink RX6 84 "UnionListModel" "now" "I", Cond.fieldLink RX6 52 "UnionListModel" "kind" "[I", Cond.fieldLink RX6 55 "UnionListModel" "what" "[I", Cond.methodLink RX6 142 yX6_arrive, Cond.instanceMethod yX6_arrive, Cond.selects RX6 yX6_arrive yX6_arrive, Cond.initialized RX6, Cond.code yX6_arrive cX6_arrive 3 none, Cond.fieldLink RX6 22 "UnionListModel" "knows" "[I", Cond.fieldLink RX6 43 "UnionListModel" "until" "[I", Cond.fieldLink RX6 37 "UnionListModel" "stage" "[I", Cond.fieldLink RX6 49 "UnionListModel" "called" "[I", Cond.methodLink RX6 136 yX6_answer, Cond.instanceMethod yX6_answer, Cond.selects RX6 yX6_answer yX6_answer, Cond.code yX6_answer cX6_answer 3 none, Cond.fieldLink RX6 40 "UnionListModel" "loaned" "[I", Cond.fieldLink RX6 16 "UnionListModel" "place" "[I", Cond.methodLink RX6 105 yX6_free, Cond.instanceMethod yX6_free, Cond.selects RX6 yX6_free yX6_free, Cond.code yX6_free cX6_free 2 (some .boolean)]
def wsX6_arriveAll_r2 : List Cond := [Cond.fieldLink RX6 7 "UnionListModel" "home" "[I", Cond.fieldLink RX6 28 "UnionListModel" "seen" "[I", Cond.methodLink RX6 120 yX6_ask, Cond.instanceMethod yX6_ask, Cond.selects RX6 yX6_ask yX6_ask, Cond.code yX6_ask cX6_ask 5 none, Cond.fieldLink RX6 75 "UnionListModel" "copies" "I", Cond.fieldLink RX6 13 "UnionListModel" "title" "[I", Cond.fieldLink RX6 34 "UnionListModel" "wanted" "[I", Cond.fieldLink RX6 31 "UnionListModel" "whose" "[I", Cond.fieldLink RX6 46 "UnionListModel" "asked" "[I", Cond.methodLink RX6 116 yX6_way, Cond.instanceMethod yX6_way, Cond.selects RX6 yX6_way yX6_way, Cond.code yX6_way cX6_way 3 (some .int), Cond.methodLink RX6 87 yX6_send, Cond.instanceMethod yX6_send, Cond.selects RX6 yX6_send yX6_send, Cond.code yX6_send cX6_send 4 (some .int), Cond.methodLink RX6 130 yX6_length, Cond.instanceMethod yX6_length, Cond.selects RX6 yX6_length yX6_length, Cond.code yX6_length cX6_length 2 (some .int), Cond.methodLink RX6 98 yX6_tell]
def wsX6_arriveAll_r3 : List Cond := [Cond.instanceMethod yX6_tell, Cond.selects RX6 yX6_tell yX6_tell, Cond.code yX6_tell cX6_tell 3 none, Cond.methodLink RX6 139 yX6_come, Cond.instanceMethod yX6_come, Cond.selects RX6 yX6_come yX6_come, Cond.code yX6_come cX6_come 5 none, Cond.fieldLink RX6 64 "UnionListModel" "spared" "[I", Cond.fieldLink RX6 19 "UnionListModel" "hands" "[I", Cond.methodLink RX6 133 yX6_homes, Cond.instanceMethod yX6_homes, Cond.selects RX6 yX6_homes yX6_homes, Cond.code yX6_homes cX6_homes 4 (some .int), Cond.methodLink RX6 108 yX6_owe, Cond.instanceMethod yX6_owe, Cond.selects RX6 yX6_owe yX6_owe, Cond.code yX6_owe cX6_owe 4 none, Cond.fieldLink RX6 61 "UnionListModel" "debt" "[I", Cond.methodLink RX6 112 yX6_find, Cond.instanceMethod yX6_find, Cond.selects RX6 yX6_find yX6_find, Cond.code yX6_find cX6_find 2 (some .int), Cond.fieldLink RX6 25 "UnionListModel" "harmed" "[I"]
def wsX6_arriveAll : List Cond := .code yX6_arriveAll cX6_arriveAll 5 (some .int) :: ((wsX6_arriveAll_r1 ++ (wsX6_arriveAll_r2 ++ wsX6_arriveAll_r3)) ++ wsX60)
def wsX6_pass_r1 : List Cond := [Cond.fieldLink RX6 84 "UnionListModel" "now" "I", Cond.fieldLink RX6 64 "UnionListModel" "spared" "[I", Cond.methodLink RX6 71 yX6_between, Cond.instanceMethod yX6_between, Cond.selects RX6 yX6_between yX6_between, Cond.initialized RX6, Cond.code yX6_between cX6_between 4 (some .boolean), Cond.methodLink RX6 95 yX6_holds, Cond.instanceMethod yX6_holds, Cond.selects RX6 yX6_holds yX6_holds, Cond.code yX6_holds cX6_holds 2 (some .boolean), Cond.fieldLink RX6 67 "UnionListModel" "thrown" "I", Cond.methodLink RX6 145 yX6_arriveAll, Cond.instanceMethod yX6_arriveAll, Cond.selects RX6 yX6_arriveAll yX6_arriveAll, Cond.code yX6_arriveAll cX6_arriveAll 5 (some .int), Cond.fieldLink RX6 81 "UnionListModel" "under" "I", Cond.fieldLink RX6 58 "UnionListModel" "day" "[I", Cond.fieldLink RX6 52 "UnionListModel" "kind" "[I", Cond.fieldLink RX6 55 "UnionListModel" "what" "[I", Cond.methodLink RX6 142 yX6_arrive, Cond.instanceMethod yX6_arrive, Cond.selects RX6 yX6_arrive yX6_arrive, Cond.code yX6_arrive cX6_arrive 3 none]
def wsX6_pass_r2 : List Cond := [Cond.fieldLink RX6 22 "UnionListModel" "knows" "[I", Cond.fieldLink RX6 43 "UnionListModel" "until" "[I", Cond.fieldLink RX6 37 "UnionListModel" "stage" "[I", Cond.fieldLink RX6 49 "UnionListModel" "called" "[I", Cond.methodLink RX6 136 yX6_answer, Cond.instanceMethod yX6_answer, Cond.selects RX6 yX6_answer yX6_answer, Cond.code yX6_answer cX6_answer 3 none, Cond.fieldLink RX6 40 "UnionListModel" "loaned" "[I", Cond.fieldLink RX6 16 "UnionListModel" "place" "[I", Cond.methodLink RX6 105 yX6_free, Cond.instanceMethod yX6_free, Cond.selects RX6 yX6_free yX6_free, Cond.code yX6_free cX6_free 2 (some .boolean), Cond.fieldLink RX6 7 "UnionListModel" "home" "[I", Cond.fieldLink RX6 28 "UnionListModel" "seen" "[I", Cond.methodLink RX6 120 yX6_ask, Cond.instanceMethod yX6_ask, Cond.selects RX6 yX6_ask yX6_ask, Cond.code yX6_ask cX6_ask 5 none, Cond.fieldLink RX6 75 "UnionListModel" "copies" "I", Cond.fieldLink RX6 13 "UnionListModel" "title" "[I", Cond.fieldLink RX6 34 "UnionListModel" "wanted" "[I", Cond.fieldLink RX6 31 "UnionListModel" "whose" "[I"]
def wsX6_pass_r3 : List Cond := [Cond.fieldLink RX6 46 "UnionListModel" "asked" "[I", Cond.methodLink RX6 116 yX6_way, Cond.instanceMethod yX6_way, Cond.selects RX6 yX6_way yX6_way, Cond.code yX6_way cX6_way 3 (some .int), Cond.methodLink RX6 87 yX6_send, Cond.instanceMethod yX6_send, Cond.selects RX6 yX6_send yX6_send, Cond.code yX6_send cX6_send 4 (some .int), Cond.methodLink RX6 130 yX6_length, Cond.instanceMethod yX6_length, Cond.selects RX6 yX6_length yX6_length, Cond.code yX6_length cX6_length 2 (some .int), Cond.methodLink RX6 98 yX6_tell, Cond.instanceMethod yX6_tell, Cond.selects RX6 yX6_tell yX6_tell, Cond.code yX6_tell cX6_tell 3 none, Cond.methodLink RX6 139 yX6_come, Cond.instanceMethod yX6_come, Cond.selects RX6 yX6_come yX6_come, Cond.code yX6_come cX6_come 5 none, Cond.fieldLink RX6 19 "UnionListModel" "hands" "[I", Cond.methodLink RX6 133 yX6_homes, Cond.instanceMethod yX6_homes]
def wsX6_pass_r4 : List Cond := [Cond.selects RX6 yX6_homes yX6_homes, Cond.code yX6_homes cX6_homes 4 (some .int), Cond.methodLink RX6 108 yX6_owe, Cond.instanceMethod yX6_owe, Cond.selects RX6 yX6_owe yX6_owe, Cond.code yX6_owe cX6_owe 4 none, Cond.fieldLink RX6 61 "UnionListModel" "debt" "[I", Cond.methodLink RX6 112 yX6_find, Cond.instanceMethod yX6_find, Cond.selects RX6 yX6_find yX6_find, Cond.code yX6_find cX6_find 2 (some .int), Cond.fieldLink RX6 25 "UnionListModel" "harmed" "[I"]
def wsX6_pass : List Cond := .code yX6_pass cX6_pass 5 (some .int) :: ((wsX6_pass_r1 ++ (wsX6_pass_r2 ++ (wsX6_pass_r3 ++ wsX6_pass_r4))) ++ wsX60)
def wsX6_today : List Cond := .code yX6_today cX6_today 1 (some .int) :: ([.fieldLink RX6 84 "UnionListModel" "now" "I", .methodLink RX6 149 yX6_plain, .instanceMethod yX6_plain, .selects RX6 yX6_plain yX6_plain, .initialized RX6, .code yX6_plain cX6_plain 2 (some .int), .fieldLink RX6 67 "UnionListModel" "thrown" "I"] ++ wsX60)
def wsX6_owes : List Cond := .code yX6_owes cX6_owes 3 (some .int) :: ([.fieldLink RX6 61 "UnionListModel" "debt" "[I", .methodLink RX6 91 yX6_isHouse, .instanceMethod yX6_isHouse, .selects RX6 yX6_isHouse yX6_isHouse, .initialized RX6, .code yX6_isHouse cX6_isHouse 2 (some .boolean), .methodLink RX6 71 yX6_between, .instanceMethod yX6_between, .selects RX6 yX6_between yX6_between, .code yX6_between cX6_between 4 (some .boolean), .methodLink RX6 95 yX6_holds, .instanceMethod yX6_holds, .selects RX6 yX6_holds yX6_holds, .code yX6_holds cX6_holds 2 (some .boolean), .fieldLink RX6 67 "UnionListModel" "thrown" "I"] ++ wsX60)
def wsX6_settle : List Cond := .code yX6_settle cX6_settle 3 (some .int) :: ([.fieldLink RX6 61 "UnionListModel" "debt" "[I", .methodLink RX6 149 yX6_plain, .instanceMethod yX6_plain, .selects RX6 yX6_plain yX6_plain, .initialized RX6, .code yX6_plain cX6_plain 2 (some .int), .fieldLink RX6 67 "UnionListModel" "thrown" "I"] ++ wsX60)
def wsX6_quota : List Cond := .code yX6_quota cX6_quota 2 (some .int) :: ([.fieldLink RX6 64 "UnionListModel" "spared" "[I", .methodLink RX6 91 yX6_isHouse, .instanceMethod yX6_isHouse, .selects RX6 yX6_isHouse yX6_isHouse, .initialized RX6, .code yX6_isHouse cX6_isHouse 2 (some .boolean), .methodLink RX6 71 yX6_between, .instanceMethod yX6_between, .selects RX6 yX6_between yX6_between, .code yX6_between cX6_between 4 (some .boolean), .methodLink RX6 95 yX6_holds, .instanceMethod yX6_holds, .selects RX6 yX6_holds yX6_holds, .code yX6_holds cX6_holds 2 (some .boolean), .fieldLink RX6 67 "UnionListModel" "thrown" "I"] ++ wsX60)
def wsJ9_abs_0f7a4 : List Cond := .code yJ9_abs_0f7a4 cJ9_abs_0f7a4 1 (some .int) :: ([])
def wsJ9_max_7cf53 : List Cond := .code yJ9_max_7cf53 cJ9_max_7cf53 2 (some .int) :: ([])
def wsJ9_min_7cf53 : List Cond := .code yJ9_min_7cf53 cJ9_min_7cf53 2 (some .int) :: ([])
def wsL_addCopy_r1 : List Cond := [Cond.classLink RL 13 "java/lang/IllegalArgumentException", Cond.classLink RL 15 "java/lang/IllegalStateException", Cond.methodLink RL 7 yX5_addCopy, Cond.instanceMethod yX5_addCopy, Cond.selects RX5 yX5_addCopy yX5_addCopy, Cond.initialized RX5, Cond.code yX5_addCopy cX5_addCopy 5 (some .int), Cond.classLink RX5 54 "java/lang/IllegalArgumentException", Cond.initialized "java/lang/IllegalArgumentException", Cond.classLink RX5 61 "java/lang/IllegalStateException", Cond.initialized "java/lang/IllegalStateException", Cond.fieldLink RX5 37 "UnionList" "copyCount" "I", Cond.fieldLink RX5 11 "UnionList" "copies" "[LUnionList$Copy;", Cond.classLink RX5 9 RX1, Cond.instantiable RX1 8, Cond.initialized RX1, Cond.fieldLink RX5 33 "UnionList" "accounts" "LUnionList$Accounts;", Cond.methodLink RX5 47 yX5_isHouse, Cond.static yX5_isHouse, Cond.code yX5_isHouse cX5_isHouse 1 (some .boolean), Cond.methodLink RX5 51 yX5_isTitle, Cond.static yX5_isTitle, Cond.code yX5_isTitle cX5_isTitle 1 (some .boolean), Cond.methodLink RX5 66 yX1_init]
def wsL_addCopy_r2 : List Cond := [Cond.instanceMethod yX1_init, Cond.code yX1_init cX1_init 4 none, Cond.methodLink RX1 3 objectInit, Cond.instanceMethod objectInit, Cond.code objectInit ⟨#[0xb1]⟩ 1 none, Cond.fieldLink RX1 9 "UnionList$Copy" "number" "I", Cond.fieldLink RX1 15 "UnionList$Copy" "home" "I", Cond.fieldLink RX1 18 "UnionList$Copy" "title" "I", Cond.fieldLink RX1 21 "UnionList$Copy" "holder" "I", Cond.fieldLink RX1 24 "UnionList$Copy" "onItsWay" "Z", Cond.fieldLink RX1 28 "UnionList$Copy" "knownToList" "I", Cond.fieldLink RX1 31 "UnionList$Copy" "harmedBy" "I", Cond.fieldLink RX1 34 "UnionList$Copy" "harmKnown" "Z", Cond.methodLink RX5 69 yX0_countHomeCopy, Cond.instanceMethod yX0_countHomeCopy, Cond.selects RX0 yX0_countHomeCopy yX0_countHomeCopy, Cond.initialized RX0, Cond.code yX0_countHomeCopy cX0_countHomeCopy 2 none, Cond.fieldLink RX0 15 "UnionList$Accounts" "homeCopies" "[I", Cond.methodLink RX5 72 yX5_sendNews, Cond.instanceMethod yX5_sendNews, Cond.selects RX5 yX5_sendNews yX5_sendNews, Cond.code yX5_sendNews cX5_sendNews 3 none, Cond.fieldLink RX5 149 "UnionList$Copy" "home" "I"]
def wsL_addCopy_r3 : List Cond := [Cond.methodLink RX5 212 yX5_wayToList, Cond.static yX5_wayToList, Cond.code yX5_wayToList cX5_wayToList 1 (some .int), Cond.methodLink RX5 156 yX5_send, Cond.instanceMethod yX5_send, Cond.selects RX5 yX5_send yX5_send, Cond.code yX5_send cX5_send 6 (some .int), Cond.fieldLink RX5 44 "UnionList" "day" "I", Cond.fieldLink RX5 26 "UnionList" "post" "LUnionList$Post;", Cond.classLink RX5 203 RX4, Cond.instantiable RX4 4, Cond.initialized RX4, Cond.methodLink RX5 205 yX4_init, Cond.instanceMethod yX4_init, Cond.code yX4_init cX4_init 5 none, Cond.methodLink RX4 1 objectInit, Cond.fieldLink RX4 7 "UnionList$Sent" "kind" "I", Cond.fieldLink RX4 13 "UnionList$Sent" "arrival" "I", Cond.fieldLink RX4 16 "UnionList$Sent" "copy" "LUnionList$Copy;", Cond.fieldLink RX4 20 "UnionList$Sent" "request" "LUnionList$Request;", Cond.methodLink RX5 208 yX2_put, Cond.instanceMethod yX2_put, Cond.selects RX2 yX2_put yX2_put, Cond.initialized RX2]
def wsL_addCopy_r4 : List Cond := [Cond.code yX2_put cX2_put 4 none, Cond.fieldLink RX2 21 "UnionList$Post" "size" "I", Cond.fieldLink RX2 15 "UnionList$Post" "waiting" "[LUnionList$Sent;", Cond.fieldLink RX2 25 "UnionList$Sent" "arrival" "I"]
def wsL_addCopy : List Cond := .codeWith yL_addCopy cL_addCopy 5 (some .int) [(0, 10, 13, 13), (0, 10, 17, 15)] :: ((wsL_addCopy_r1 ++ (wsL_addCopy_r2 ++ (wsL_addCopy_r3 ++ wsL_addCopy_r4))) ++ wsX50 ++ wsX10 ++ wsX00 ++ wsX40 ++ wsX20 ++ (vx_atS RX5 58 "java/lang/IllegalArgumentException" ["java/lang/RuntimeException", "java/lang/Exception"]).filter goodWord ++ (vx_atS RX5 65 "java/lang/IllegalStateException" ["java/lang/RuntimeException", "java/lang/Exception"]).filter goodWord)
def wsL_inHandsOf : List Cond := .codeWith yL_inHandsOf cL_inHandsOf 4 (some .int) [(0, 9, 12, 21)] :: ([.classLink RL 21 "java/lang/IndexOutOfBoundsException", .methodLink RL 17 yX5_inHandsOf, .instanceMethod yX5_inHandsOf, .selects RX5 yX5_inHandsOf yX5_inHandsOf, .initialized RX5, .code yX5_inHandsOf cX5_inHandsOf 2 (some .int), .fieldLink RX5 80 "UnionList$Copy" "holder" "I", .methodLink RX5 76 yX5_copyNumbered, .instanceMethod yX5_copyNumbered, .selects RX5 yX5_copyNumbered yX5_copyNumbered, .code yX5_copyNumbered cX5_copyNumbered 3 (some (.object "UnionList$Copy")), .classLink RX5 193 "java/lang/IndexOutOfBoundsException", .initialized "java/lang/IndexOutOfBoundsException", .fieldLink RX5 11 "UnionList" "copies" "[LUnionList$Copy;"] ++ wsX10 ++ wsX50 ++ (vx_atS RX5 197 "java/lang/IndexOutOfBoundsException" ["java/lang/RuntimeException", "java/lang/Exception"]).filter goodWord)
def wsL_isFree_r1 : List Cond := [Cond.classLink RL 21 "java/lang/IndexOutOfBoundsException", Cond.methodLink RL 23 yX5_isFree, Cond.instanceMethod yX5_isFree, Cond.selects RX5 yX5_isFree yX5_isFree, Cond.initialized RX5, Cond.code yX5_isFree cX5_isFree 2 (some .boolean), Cond.methodLink RX5 76 yX5_copyNumbered, Cond.instanceMethod yX5_copyNumbered, Cond.selects RX5 yX5_copyNumbered yX5_copyNumbered, Cond.code yX5_copyNumbered cX5_copyNumbered 3 (some (.object "UnionList$Copy")), Cond.classLink RX5 193 "java/lang/IndexOutOfBoundsException", Cond.initialized "java/lang/IndexOutOfBoundsException", Cond.fieldLink RX5 11 "UnionList" "copies" "[LUnionList$Copy;", Cond.methodLink RX5 83 yX1_canBeSent, Cond.instanceMethod yX1_canBeSent, Cond.selects RX1 yX1_canBeSent yX1_canBeSent, Cond.initialized RX1, Cond.code yX1_canBeSent cX1_canBeSent 1 (some .boolean), Cond.fieldLink RX1 34 "UnionList$Copy" "harmKnown" "Z", Cond.methodLink RX1 37 yX1_isAtHome, Cond.instanceMethod yX1_isAtHome, Cond.selects RX1 yX1_isAtHome yX1_isAtHome, Cond.code yX1_isAtHome cX1_isAtHome 1 (some .boolean), Cond.fieldLink RX1 21 "UnionList$Copy" "holder" "I"]
def wsL_isFree_r2 : List Cond := [Cond.fieldLink RX1 15 "UnionList$Copy" "home" "I", Cond.fieldLink RX1 24 "UnionList$Copy" "onItsWay" "Z"]
def wsL_isFree : List Cond := .codeWith yL_isFree cL_isFree 4 (some .int) [(0, 16, 19, 21)] :: ((wsL_isFree_r1 ++ wsL_isFree_r2) ++ wsX50 ++ wsX10 ++ (vx_atS RX5 197 "java/lang/IndexOutOfBoundsException" ["java/lang/RuntimeException", "java/lang/Exception"]).filter goodWord)
def wsL_listed : List Cond := .codeWith yL_listed cL_listed 4 (some .int) [(0, 9, 12, 21)] :: ([.classLink RL 21 "java/lang/IndexOutOfBoundsException", .methodLink RL 27 yX5_listed, .instanceMethod yX5_listed, .selects RX5 yX5_listed yX5_listed, .initialized RX5, .code yX5_listed cX5_listed 2 (some .int), .fieldLink RX5 87 "UnionList$Copy" "knownToList" "I", .methodLink RX5 76 yX5_copyNumbered, .instanceMethod yX5_copyNumbered, .selects RX5 yX5_copyNumbered yX5_copyNumbered, .code yX5_copyNumbered cX5_copyNumbered 3 (some (.object "UnionList$Copy")), .classLink RX5 193 "java/lang/IndexOutOfBoundsException", .initialized "java/lang/IndexOutOfBoundsException", .fieldLink RX5 11 "UnionList" "copies" "[LUnionList$Copy;"] ++ wsX10 ++ wsX50 ++ (vx_atS RX5 197 "java/lang/IndexOutOfBoundsException" ["java/lang/RuntimeException", "java/lang/Exception"]).filter goodWord)
def wsL_harm : List Cond := .codeWith yL_harm cL_harm 4 (some .int) [(0, 9, 12, 21), (0, 9, 15, 15)] :: ([.classLink RL 21 "java/lang/IndexOutOfBoundsException", .classLink RL 15 "java/lang/IllegalStateException", .methodLink RL 30 yX5_harm, .instanceMethod yX5_harm, .selects RX5 yX5_harm yX5_harm, .initialized RX5, .code yX5_harm cX5_harm 3 (some .int), .classLink RX5 61 "java/lang/IllegalStateException", .initialized "java/lang/IllegalStateException", .fieldLink RX5 80 "UnionList$Copy" "holder" "I", .fieldLink RX5 95 "UnionList$Copy" "harmedBy" "I", .methodLink RX5 76 yX5_copyNumbered, .instanceMethod yX5_copyNumbered, .selects RX5 yX5_copyNumbered yX5_copyNumbered, .code yX5_copyNumbered cX5_copyNumbered 3 (some (.object "UnionList$Copy")), .classLink RX5 193 "java/lang/IndexOutOfBoundsException", .initialized "java/lang/IndexOutOfBoundsException", .fieldLink RX5 11 "UnionList" "copies" "[LUnionList$Copy;", .methodLink RX5 90 yX1_isHarmed, .instanceMethod yX1_isHarmed, .selects RX1 yX1_isHarmed yX1_isHarmed, .initialized RX1, .code yX1_isHarmed cX1_isHarmed 1 (some .boolean), .fieldLink RX1 31 "UnionList$Copy" "harmedBy" "I"] ++ wsX10 ++ wsX50 ++ (vx_atS RX5 65 "java/lang/IllegalStateException" ["java/lang/RuntimeException", "java/lang/Exception"]).filter goodWord ++ (vx_atS RX5 197 "java/lang/IndexOutOfBoundsException" ["java/lang/RuntimeException", "java/lang/Exception"]).filter goodWord)
def wsL_look_r1 : List Cond := [Cond.classLink RL 21 "java/lang/IndexOutOfBoundsException", Cond.classLink RL 15 "java/lang/IllegalStateException", Cond.methodLink RL 33 yX5_look, Cond.instanceMethod yX5_look, Cond.selects RX5 yX5_look yX5_look, Cond.initialized RX5, Cond.code yX5_look cX5_look 3 (some .int), Cond.classLink RX5 61 "java/lang/IllegalStateException", Cond.initialized "java/lang/IllegalStateException", Cond.fieldLink RX5 98 "UnionList$Copy" "onItsWay" "Z", Cond.methodLink RX5 76 yX5_copyNumbered, Cond.instanceMethod yX5_copyNumbered, Cond.selects RX5 yX5_copyNumbered yX5_copyNumbered, Cond.code yX5_copyNumbered cX5_copyNumbered 3 (some (.object "UnionList$Copy")), Cond.classLink RX5 193 "java/lang/IndexOutOfBoundsException", Cond.initialized "java/lang/IndexOutOfBoundsException", Cond.fieldLink RX5 11 "UnionList" "copies" "[LUnionList$Copy;", Cond.methodLink RX5 104 yX5_examine, Cond.instanceMethod yX5_examine, Cond.selects RX5 yX5_examine yX5_examine, Cond.code yX5_examine cX5_examine 2 (some .int), Cond.fieldLink RX5 111 "UnionList$Copy" "harmKnown" "Z", Cond.fieldLink RX5 95 "UnionList$Copy" "harmedBy" "I", Cond.fieldLink RX5 149 "UnionList$Copy" "home" "I"]
def wsL_look_r2 : List Cond := [Cond.fieldLink RX5 33 "UnionList" "accounts" "LUnionList$Accounts;", Cond.methodLink RX5 90 yX1_isHarmed, Cond.instanceMethod yX1_isHarmed, Cond.selects RX1 yX1_isHarmed yX1_isHarmed, Cond.initialized RX1, Cond.code yX1_isHarmed cX1_isHarmed 1 (some .boolean), Cond.fieldLink RX1 31 "UnionList$Copy" "harmedBy" "I", Cond.methodLink RX5 170 yX0_charge, Cond.instanceMethod yX0_charge, Cond.selects RX0 yX0_charge yX0_charge, Cond.initialized RX0, Cond.code yX0_charge cX0_charge 4 none, Cond.fieldLink RX0 9 "UnionList$Accounts" "debts" "[I", Cond.static yX5_isHouse, Cond.code yX5_isHouse cX5_isHouse 1 (some .boolean)]
def wsL_look : List Cond := .codeWith yL_look cL_look 4 (some .int) [(0, 9, 12, 21), (0, 9, 15, 15)] :: ((wsL_look_r1 ++ wsL_look_r2) ++ wsX10 ++ wsX50 ++ wsX00 ++ (vx_atS RX5 65 "java/lang/IllegalStateException" ["java/lang/RuntimeException", "java/lang/Exception"]).filter goodWord ++ (vx_atS RX5 197 "java/lang/IndexOutOfBoundsException" ["java/lang/RuntimeException", "java/lang/Exception"]).filter goodWord)
def wsL_mend_r1 : List Cond := [Cond.classLink RL 21 "java/lang/IndexOutOfBoundsException", Cond.classLink RL 15 "java/lang/IllegalStateException", Cond.methodLink RL 36 yX5_mend, Cond.instanceMethod yX5_mend, Cond.selects RX5 yX5_mend yX5_mend, Cond.initialized RX5, Cond.code yX5_mend cX5_mend 3 none, Cond.classLink RX5 61 "java/lang/IllegalStateException", Cond.initialized "java/lang/IllegalStateException", Cond.fieldLink RX5 111 "UnionList$Copy" "harmKnown" "Z", Cond.fieldLink RX5 95 "UnionList$Copy" "harmedBy" "I", Cond.methodLink RX5 76 yX5_copyNumbered, Cond.instanceMethod yX5_copyNumbered, Cond.selects RX5 yX5_copyNumbered yX5_copyNumbered, Cond.code yX5_copyNumbered cX5_copyNumbered 3 (some (.object "UnionList$Copy")), Cond.classLink RX5 193 "java/lang/IndexOutOfBoundsException", Cond.initialized "java/lang/IndexOutOfBoundsException", Cond.fieldLink RX5 11 "UnionList" "copies" "[LUnionList$Copy;", Cond.methodLink RX5 108 yX1_isAtHome, Cond.instanceMethod yX1_isAtHome, Cond.selects RX1 yX1_isAtHome yX1_isAtHome, Cond.initialized RX1, Cond.code yX1_isAtHome cX1_isAtHome 1 (some .boolean), Cond.fieldLink RX1 21 "UnionList$Copy" "holder" "I"]
def wsL_mend_r2 : List Cond := [Cond.fieldLink RX1 15 "UnionList$Copy" "home" "I", Cond.fieldLink RX1 24 "UnionList$Copy" "onItsWay" "Z", Cond.methodLink RX5 72 yX5_sendNews, Cond.instanceMethod yX5_sendNews, Cond.selects RX5 yX5_sendNews yX5_sendNews, Cond.code yX5_sendNews cX5_sendNews 3 none, Cond.fieldLink RX5 149 "UnionList$Copy" "home" "I", Cond.methodLink RX5 212 yX5_wayToList, Cond.static yX5_wayToList, Cond.code yX5_wayToList cX5_wayToList 1 (some .int), Cond.methodLink RX5 156 yX5_send, Cond.instanceMethod yX5_send, Cond.selects RX5 yX5_send yX5_send, Cond.code yX5_send cX5_send 6 (some .int), Cond.fieldLink RX5 44 "UnionList" "day" "I", Cond.fieldLink RX5 26 "UnionList" "post" "LUnionList$Post;", Cond.classLink RX5 203 RX4, Cond.instantiable RX4 4, Cond.initialized RX4, Cond.methodLink RX5 205 yX4_init, Cond.instanceMethod yX4_init, Cond.code yX4_init cX4_init 5 none, Cond.methodLink RX4 1 objectInit, Cond.instanceMethod objectInit]
def wsL_mend_r3 : List Cond := [Cond.code objectInit ⟨#[0xb1]⟩ 1 none, Cond.fieldLink RX4 7 "UnionList$Sent" "kind" "I", Cond.fieldLink RX4 13 "UnionList$Sent" "arrival" "I", Cond.fieldLink RX4 16 "UnionList$Sent" "copy" "LUnionList$Copy;", Cond.fieldLink RX4 20 "UnionList$Sent" "request" "LUnionList$Request;", Cond.methodLink RX5 208 yX2_put, Cond.instanceMethod yX2_put, Cond.selects RX2 yX2_put yX2_put, Cond.initialized RX2, Cond.code yX2_put cX2_put 4 none, Cond.fieldLink RX2 21 "UnionList$Post" "size" "I", Cond.fieldLink RX2 15 "UnionList$Post" "waiting" "[LUnionList$Sent;", Cond.fieldLink RX2 25 "UnionList$Sent" "arrival" "I"]
def wsL_mend : List Cond := .codeWith yL_mend cL_mend 3 (some .int) [(0, 5, 8, 21), (0, 5, 11, 15)] :: ((wsL_mend_r1 ++ (wsL_mend_r2 ++ wsL_mend_r3)) ++ wsX10 ++ wsX50 ++ wsX40 ++ wsX20 ++ (vx_atS RX5 65 "java/lang/IllegalStateException" ["java/lang/RuntimeException", "java/lang/Exception"]).filter goodWord ++ (vx_atS RX5 197 "java/lang/IndexOutOfBoundsException" ["java/lang/RuntimeException", "java/lang/Exception"]).filter goodWord)
def wsL_request_r1 : List Cond := [Cond.classLink RL 13 "java/lang/IllegalArgumentException", Cond.classLink RL 15 "java/lang/IllegalStateException", Cond.methodLink RL 40 yX5_request, Cond.instanceMethod yX5_request, Cond.selects RX5 yX5_request yX5_request, Cond.initialized RX5, Cond.code yX5_request cX5_request 5 (some .int), Cond.classLink RX5 54 "java/lang/IllegalArgumentException", Cond.initialized "java/lang/IllegalArgumentException", Cond.classLink RX5 61 "java/lang/IllegalStateException", Cond.initialized "java/lang/IllegalStateException", Cond.fieldLink RX5 41 "UnionList" "requestCount" "I", Cond.fieldLink RX5 17 "UnionList" "requests" "[LUnionList$Request;", Cond.classLink RX5 15 RX3, Cond.instantiable RX3 7, Cond.initialized RX3, Cond.methodLink RX5 47 yX5_isHouse, Cond.static yX5_isHouse, Cond.code yX5_isHouse cX5_isHouse 1 (some .boolean), Cond.methodLink RX5 51 yX5_isTitle, Cond.static yX5_isTitle, Cond.code yX5_isTitle cX5_isTitle 1 (some .boolean), Cond.methodLink RX5 120 yX3_init, Cond.instanceMethod yX3_init]
def wsL_request_r2 : List Cond := [Cond.code yX3_init cX3_init 3 none, Cond.methodLink RX3 3 objectInit, Cond.instanceMethod objectInit, Cond.code objectInit ⟨#[0xb1]⟩ 1 none, Cond.fieldLink RX3 9 "UnionList$Request" "house" "I", Cond.fieldLink RX3 15 "UnionList$Request" "title" "I", Cond.fieldLink RX3 18 "UnionList$Request" "copy" "LUnionList$Copy;", Cond.fieldLink RX3 22 "UnionList$Request" "state" "I", Cond.fieldLink RX3 25 "UnionList$Request" "dueDay" "I", Cond.fieldLink RX3 28 "UnionList$Request" "recallSent" "Z", Cond.fieldLink RX3 32 "UnionList$Request" "askedHomes" "I", Cond.methodLink RX5 123 yX5_askNextHome, Cond.instanceMethod yX5_askNextHome, Cond.selects RX5 yX5_askNextHome yX5_askNextHome, Cond.code yX5_askNextHome cX5_askNextHome 3 none, Cond.fieldLink RX5 134 "UnionList$Request" "copy" "LUnionList$Copy;", Cond.fieldLink RX5 131 "UnionList$Request" "state" "I", Cond.fieldLink RX5 149 "UnionList$Copy" "home" "I", Cond.fieldLink RX5 146 "UnionList$Request" "house" "I", Cond.methodLink RX5 252 yX5_nearestListedFree, Cond.instanceMethod yX5_nearestListedFree, Cond.selects RX5 yX5_nearestListedFree yX5_nearestListedFree, Cond.code yX5_nearestListedFree cX5_nearestListedFree 9 (some (.object "UnionList$Copy")), Cond.fieldLink RX5 11 "UnionList" "copies" "[LUnionList$Copy;"]
def wsL_request_r3 : List Cond := [Cond.methodLink RX5 259 yX3_mayAskFor, Cond.instanceMethod yX3_mayAskFor, Cond.selects RX3 yX3_mayAskFor yX3_mayAskFor, Cond.code yX3_mayAskFor cX3_mayAskFor 3 (some .boolean), Cond.fieldLink RX3 35 "UnionList$Copy" "home" "I", Cond.fieldLink RX3 40 "UnionList$Copy" "title" "I", Cond.fieldLink RX3 41 "UnionList$Copy" "knownToList" "I", Cond.methodLink RX5 152 yX5_way, Cond.static yX5_way, Cond.code yX5_way cX5_way 2 (some .int), Cond.methodLink RX5 200 Lib.Math.abs.name, Cond.static Lib.Math.abs.name, Cond.initialized "java/lang/Math", Cond.code Lib.Math.abs.name Lib.Math.abs.code 1 (some .int), Cond.methodLink RX5 256 yX3_markAsked, Cond.instanceMethod yX3_markAsked, Cond.selects RX3 yX3_markAsked yX3_markAsked, Cond.code yX3_markAsked cX3_markAsked 2 none, Cond.methodLink RX5 156 yX5_send, Cond.instanceMethod yX5_send, Cond.selects RX5 yX5_send yX5_send, Cond.code yX5_send cX5_send 6 (some .int), Cond.fieldLink RX5 44 "UnionList" "day" "I", Cond.fieldLink RX5 26 "UnionList" "post" "LUnionList$Post;"]
def wsL_request_r4 : List Cond := [Cond.classLink RX5 203 RX4, Cond.instantiable RX4 4, Cond.initialized RX4, Cond.methodLink RX5 205 yX4_init, Cond.instanceMethod yX4_init, Cond.code yX4_init cX4_init 5 none, Cond.methodLink RX4 1 objectInit, Cond.fieldLink RX4 7 "UnionList$Sent" "kind" "I", Cond.fieldLink RX4 13 "UnionList$Sent" "arrival" "I", Cond.fieldLink RX4 16 "UnionList$Sent" "copy" "LUnionList$Copy;", Cond.fieldLink RX4 20 "UnionList$Sent" "request" "LUnionList$Request;", Cond.methodLink RX5 208 yX2_put, Cond.instanceMethod yX2_put, Cond.selects RX2 yX2_put yX2_put, Cond.initialized RX2, Cond.code yX2_put cX2_put 4 none, Cond.fieldLink RX2 21 "UnionList$Post" "size" "I", Cond.fieldLink RX2 15 "UnionList$Post" "waiting" "[LUnionList$Sent;", Cond.fieldLink RX2 25 "UnionList$Sent" "arrival" "I"]
def wsL_request : List Cond := .codeWith yL_request cL_request 5 (some .int) [(0, 10, 13, 13), (0, 10, 17, 15)] :: ((wsL_request_r1 ++ (wsL_request_r2 ++ (wsL_request_r3 ++ wsL_request_r4))) ++ wsX50 ++ wsX30 ++ wsX10 ++ wsX40 ++ wsX20 ++ (vx_atS RX5 58 "java/lang/IllegalArgumentException" ["java/lang/RuntimeException", "java/lang/Exception"]).filter goodWord ++ (vx_atS RX5 65 "java/lang/IllegalStateException" ["java/lang/RuntimeException", "java/lang/Exception"]).filter goodWord)
def wsL_state : List Cond := .codeWith yL_state cL_state 4 (some .int) [(0, 9, 12, 21)] :: ([.classLink RL 21 "java/lang/IndexOutOfBoundsException", .methodLink RL 43 yX5_state, .instanceMethod yX5_state, .selects RX5 yX5_state yX5_state, .initialized RX5, .code yX5_state cX5_state 2 (some .int), .fieldLink RX5 131 "UnionList$Request" "state" "I", .methodLink RX5 127 yX5_requestNumbered, .instanceMethod yX5_requestNumbered, .selects RX5 yX5_requestNumbered yX5_requestNumbered, .code yX5_requestNumbered cX5_requestNumbered 3 (some (.object "UnionList$Request")), .classLink RX5 193 "java/lang/IndexOutOfBoundsException", .initialized "java/lang/IndexOutOfBoundsException", .fieldLink RX5 17 "UnionList" "requests" "[LUnionList$Request;"] ++ wsX30 ++ wsX50 ++ (vx_atS RX5 197 "java/lang/IndexOutOfBoundsException" ["java/lang/RuntimeException", "java/lang/Exception"]).filter goodWord)
def wsL_copyOf : List Cond := .codeWith yL_copyOf cL_copyOf 4 (some .int) [(0, 9, 12, 21)] :: ([.classLink RL 21 "java/lang/IndexOutOfBoundsException", .methodLink RL 46 yX5_copyOf, .instanceMethod yX5_copyOf, .selects RX5 yX5_copyOf yX5_copyOf, .initialized RX5, .code yX5_copyOf cX5_copyOf 3 (some .int), .fieldLink RX5 134 "UnionList$Request" "copy" "LUnionList$Copy;", .fieldLink RX5 138 "UnionList$Copy" "number" "I", .methodLink RX5 127 yX5_requestNumbered, .instanceMethod yX5_requestNumbered, .selects RX5 yX5_requestNumbered yX5_requestNumbered, .code yX5_requestNumbered cX5_requestNumbered 3 (some (.object "UnionList$Request")), .classLink RX5 193 "java/lang/IndexOutOfBoundsException", .initialized "java/lang/IndexOutOfBoundsException", .fieldLink RX5 17 "UnionList" "requests" "[LUnionList$Request;"] ++ wsX30 ++ wsX10 ++ wsX50 ++ (vx_atS RX5 197 "java/lang/IndexOutOfBoundsException" ["java/lang/RuntimeException", "java/lang/Exception"]).filter goodWord)
def wsL_due : List Cond := .codeWith yL_due cL_due 4 (some .int) [(0, 9, 12, 21), (0, 9, 15, 15)] :: ([.classLink RL 21 "java/lang/IndexOutOfBoundsException", .classLink RL 15 "java/lang/IllegalStateException", .methodLink RL 49 yX5_due, .instanceMethod yX5_due, .selects RX5 yX5_due yX5_due, .initialized RX5, .code yX5_due cX5_due 3 (some .int), .classLink RX5 61 "java/lang/IllegalStateException", .initialized "java/lang/IllegalStateException", .fieldLink RX5 131 "UnionList$Request" "state" "I", .fieldLink RX5 143 "UnionList$Request" "dueDay" "I", .methodLink RX5 127 yX5_requestNumbered, .instanceMethod yX5_requestNumbered, .selects RX5 yX5_requestNumbered yX5_requestNumbered, .code yX5_requestNumbered cX5_requestNumbered 3 (some (.object "UnionList$Request")), .classLink RX5 193 "java/lang/IndexOutOfBoundsException", .initialized "java/lang/IndexOutOfBoundsException", .fieldLink RX5 17 "UnionList" "requests" "[LUnionList$Request;"] ++ wsX30 ++ wsX50 ++ (vx_atS RX5 65 "java/lang/IllegalStateException" ["java/lang/RuntimeException", "java/lang/Exception"]).filter goodWord ++ (vx_atS RX5 197 "java/lang/IndexOutOfBoundsException" ["java/lang/RuntimeException", "java/lang/Exception"]).filter goodWord)
def wsL_renew_r1 : List Cond := [Cond.classLink RL 21 "java/lang/IndexOutOfBoundsException", Cond.classLink RL 15 "java/lang/IllegalStateException", Cond.methodLink RL 52 yX5_renew, Cond.instanceMethod yX5_renew, Cond.selects RX5 yX5_renew yX5_renew, Cond.initialized RX5, Cond.code yX5_renew cX5_renew 4 (some .int), Cond.classLink RX5 61 "java/lang/IllegalStateException", Cond.initialized "java/lang/IllegalStateException", Cond.fieldLink RX5 134 "UnionList$Request" "copy" "LUnionList$Copy;", Cond.fieldLink RX5 131 "UnionList$Request" "state" "I", Cond.fieldLink RX5 146 "UnionList$Request" "house" "I", Cond.fieldLink RX5 149 "UnionList$Copy" "home" "I", Cond.methodLink RX5 127 yX5_requestNumbered, Cond.instanceMethod yX5_requestNumbered, Cond.selects RX5 yX5_requestNumbered yX5_requestNumbered, Cond.code yX5_requestNumbered cX5_requestNumbered 3 (some (.object "UnionList$Request")), Cond.classLink RX5 193 "java/lang/IndexOutOfBoundsException", Cond.initialized "java/lang/IndexOutOfBoundsException", Cond.fieldLink RX5 17 "UnionList" "requests" "[LUnionList$Request;", Cond.methodLink RX5 152 yX5_way, Cond.static yX5_way, Cond.code yX5_way cX5_way 2 (some .int), Cond.methodLink RX5 200 Lib.Math.abs.name]
def wsL_renew_r2 : List Cond := [Cond.static Lib.Math.abs.name, Cond.initialized "java/lang/Math", Cond.code Lib.Math.abs.name Lib.Math.abs.code 1 (some .int), Cond.methodLink RX5 156 yX5_send, Cond.instanceMethod yX5_send, Cond.selects RX5 yX5_send yX5_send, Cond.code yX5_send cX5_send 6 (some .int), Cond.fieldLink RX5 44 "UnionList" "day" "I", Cond.fieldLink RX5 26 "UnionList" "post" "LUnionList$Post;", Cond.classLink RX5 203 RX4, Cond.instantiable RX4 4, Cond.initialized RX4, Cond.methodLink RX5 205 yX4_init, Cond.instanceMethod yX4_init, Cond.code yX4_init cX4_init 5 none, Cond.methodLink RX4 1 objectInit, Cond.instanceMethod objectInit, Cond.code objectInit ⟨#[0xb1]⟩ 1 none, Cond.fieldLink RX4 7 "UnionList$Sent" "kind" "I", Cond.fieldLink RX4 13 "UnionList$Sent" "arrival" "I", Cond.fieldLink RX4 16 "UnionList$Sent" "copy" "LUnionList$Copy;", Cond.fieldLink RX4 20 "UnionList$Sent" "request" "LUnionList$Request;", Cond.methodLink RX5 208 yX2_put, Cond.instanceMethod yX2_put]
def wsL_renew_r3 : List Cond := [Cond.selects RX2 yX2_put yX2_put, Cond.initialized RX2, Cond.code yX2_put cX2_put 4 none, Cond.fieldLink RX2 21 "UnionList$Post" "size" "I", Cond.fieldLink RX2 15 "UnionList$Post" "waiting" "[LUnionList$Sent;", Cond.fieldLink RX2 25 "UnionList$Sent" "arrival" "I"]
def wsL_renew : List Cond := .codeWith yL_renew cL_renew 4 (some .int) [(0, 9, 12, 21), (0, 9, 15, 15)] :: ((wsL_renew_r1 ++ (wsL_renew_r2 ++ wsL_renew_r3)) ++ wsX30 ++ wsX10 ++ wsX50 ++ wsX40 ++ wsX20 ++ (vx_atS RX5 65 "java/lang/IllegalStateException" ["java/lang/RuntimeException", "java/lang/Exception"]).filter goodWord ++ (vx_atS RX5 197 "java/lang/IndexOutOfBoundsException" ["java/lang/RuntimeException", "java/lang/Exception"]).filter goodWord)
def wsL_recall_r1 : List Cond := [Cond.classLink RL 21 "java/lang/IndexOutOfBoundsException", Cond.classLink RL 15 "java/lang/IllegalStateException", Cond.methodLink RL 55 yX5_recall, Cond.instanceMethod yX5_recall, Cond.selects RX5 yX5_recall yX5_recall, Cond.initialized RX5, Cond.code yX5_recall cX5_recall 4 (some .int), Cond.classLink RX5 61 "java/lang/IllegalStateException", Cond.initialized "java/lang/IllegalStateException", Cond.fieldLink RX5 134 "UnionList$Request" "copy" "LUnionList$Copy;", Cond.fieldLink RX5 131 "UnionList$Request" "state" "I", Cond.fieldLink RX5 160 "UnionList$Request" "recallSent" "Z", Cond.fieldLink RX5 146 "UnionList$Request" "house" "I", Cond.fieldLink RX5 149 "UnionList$Copy" "home" "I", Cond.methodLink RX5 127 yX5_requestNumbered, Cond.instanceMethod yX5_requestNumbered, Cond.selects RX5 yX5_requestNumbered yX5_requestNumbered, Cond.code yX5_requestNumbered cX5_requestNumbered 3 (some (.object "UnionList$Request")), Cond.classLink RX5 193 "java/lang/IndexOutOfBoundsException", Cond.initialized "java/lang/IndexOutOfBoundsException", Cond.fieldLink RX5 17 "UnionList" "requests" "[LUnionList$Request;", Cond.methodLink RX5 152 yX5_way, Cond.static yX5_way, Cond.code yX5_way cX5_way 2 (some .int)]
def wsL_recall_r2 : List Cond := [Cond.methodLink RX5 200 Lib.Math.abs.name, Cond.static Lib.Math.abs.name, Cond.initialized "java/lang/Math", Cond.code Lib.Math.abs.name Lib.Math.abs.code 1 (some .int), Cond.methodLink RX5 156 yX5_send, Cond.instanceMethod yX5_send, Cond.selects RX5 yX5_send yX5_send, Cond.code yX5_send cX5_send 6 (some .int), Cond.fieldLink RX5 44 "UnionList" "day" "I", Cond.fieldLink RX5 26 "UnionList" "post" "LUnionList$Post;", Cond.classLink RX5 203 RX4, Cond.instantiable RX4 4, Cond.initialized RX4, Cond.methodLink RX5 205 yX4_init, Cond.instanceMethod yX4_init, Cond.code yX4_init cX4_init 5 none, Cond.methodLink RX4 1 objectInit, Cond.instanceMethod objectInit, Cond.code objectInit ⟨#[0xb1]⟩ 1 none, Cond.fieldLink RX4 7 "UnionList$Sent" "kind" "I", Cond.fieldLink RX4 13 "UnionList$Sent" "arrival" "I", Cond.fieldLink RX4 16 "UnionList$Sent" "copy" "LUnionList$Copy;", Cond.fieldLink RX4 20 "UnionList$Sent" "request" "LUnionList$Request;", Cond.methodLink RX5 208 yX2_put]
def wsL_recall_r3 : List Cond := [Cond.instanceMethod yX2_put, Cond.selects RX2 yX2_put yX2_put, Cond.initialized RX2, Cond.code yX2_put cX2_put 4 none, Cond.fieldLink RX2 21 "UnionList$Post" "size" "I", Cond.fieldLink RX2 15 "UnionList$Post" "waiting" "[LUnionList$Sent;", Cond.fieldLink RX2 25 "UnionList$Sent" "arrival" "I"]
def wsL_recall : List Cond := .codeWith yL_recall cL_recall 4 (some .int) [(0, 9, 12, 21), (0, 9, 15, 15)] :: ((wsL_recall_r1 ++ (wsL_recall_r2 ++ wsL_recall_r3)) ++ wsX30 ++ wsX10 ++ wsX50 ++ wsX40 ++ wsX20 ++ (vx_atS RX5 65 "java/lang/IllegalStateException" ["java/lang/RuntimeException", "java/lang/Exception"]).filter goodWord ++ (vx_atS RX5 197 "java/lang/IndexOutOfBoundsException" ["java/lang/RuntimeException", "java/lang/Exception"]).filter goodWord)
def wsL_sendBack_r1 : List Cond := [Cond.classLink RL 21 "java/lang/IndexOutOfBoundsException", Cond.classLink RL 15 "java/lang/IllegalStateException", Cond.methodLink RL 58 yX5_sendBack, Cond.instanceMethod yX5_sendBack, Cond.selects RX5 yX5_sendBack yX5_sendBack, Cond.initialized RX5, Cond.code yX5_sendBack cX5_sendBack 5 (some .int), Cond.classLink RX5 61 "java/lang/IllegalStateException", Cond.initialized "java/lang/IllegalStateException", Cond.fieldLink RX5 134 "UnionList$Request" "copy" "LUnionList$Copy;", Cond.fieldLink RX5 131 "UnionList$Request" "state" "I", Cond.fieldLink RX5 44 "UnionList" "day" "I", Cond.fieldLink RX5 143 "UnionList$Request" "dueDay" "I", Cond.methodLink RX5 165 Lib.Math.max.name, Cond.static Lib.Math.max.name, Cond.initialized "java/lang/Math", Cond.code Lib.Math.max.name Lib.Math.max.code 2 (some .int), Cond.fieldLink RX5 33 "UnionList" "accounts" "LUnionList$Accounts;", Cond.fieldLink RX5 146 "UnionList$Request" "house" "I", Cond.fieldLink RX5 149 "UnionList$Copy" "home" "I", Cond.fieldLink RX5 98 "UnionList$Copy" "onItsWay" "Z", Cond.methodLink RX5 127 yX5_requestNumbered, Cond.instanceMethod yX5_requestNumbered, Cond.selects RX5 yX5_requestNumbered yX5_requestNumbered]
def wsL_sendBack_r2 : List Cond := [Cond.code yX5_requestNumbered cX5_requestNumbered 3 (some (.object "UnionList$Request")), Cond.classLink RX5 193 "java/lang/IndexOutOfBoundsException", Cond.initialized "java/lang/IndexOutOfBoundsException", Cond.fieldLink RX5 17 "UnionList" "requests" "[LUnionList$Request;", Cond.methodLink RX5 170 yX0_charge, Cond.instanceMethod yX0_charge, Cond.selects RX0 yX0_charge yX0_charge, Cond.initialized RX0, Cond.code yX0_charge cX0_charge 4 none, Cond.fieldLink RX0 9 "UnionList$Accounts" "debts" "[I", Cond.static yX5_isHouse, Cond.code yX5_isHouse cX5_isHouse 1 (some .boolean), Cond.methodLink RX5 152 yX5_way, Cond.static yX5_way, Cond.code yX5_way cX5_way 2 (some .int), Cond.methodLink RX5 200 Lib.Math.abs.name, Cond.static Lib.Math.abs.name, Cond.code Lib.Math.abs.name Lib.Math.abs.code 1 (some .int), Cond.methodLink RX5 156 yX5_send, Cond.instanceMethod yX5_send, Cond.selects RX5 yX5_send yX5_send, Cond.code yX5_send cX5_send 6 (some .int), Cond.fieldLink RX5 26 "UnionList" "post" "LUnionList$Post;", Cond.classLink RX5 203 RX4]
def wsL_sendBack_r3 : List Cond := [Cond.instantiable RX4 4, Cond.initialized RX4, Cond.methodLink RX5 205 yX4_init, Cond.instanceMethod yX4_init, Cond.code yX4_init cX4_init 5 none, Cond.methodLink RX4 1 objectInit, Cond.instanceMethod objectInit, Cond.code objectInit ⟨#[0xb1]⟩ 1 none, Cond.fieldLink RX4 7 "UnionList$Sent" "kind" "I", Cond.fieldLink RX4 13 "UnionList$Sent" "arrival" "I", Cond.fieldLink RX4 16 "UnionList$Sent" "copy" "LUnionList$Copy;", Cond.fieldLink RX4 20 "UnionList$Sent" "request" "LUnionList$Request;", Cond.methodLink RX5 208 yX2_put, Cond.instanceMethod yX2_put, Cond.selects RX2 yX2_put yX2_put, Cond.initialized RX2, Cond.code yX2_put cX2_put 4 none, Cond.fieldLink RX2 21 "UnionList$Post" "size" "I", Cond.fieldLink RX2 15 "UnionList$Post" "waiting" "[LUnionList$Sent;", Cond.fieldLink RX2 25 "UnionList$Sent" "arrival" "I"]
def wsL_sendBack : List Cond := .codeWith yL_sendBack cL_sendBack 4 (some .int) [(0, 9, 12, 21), (0, 9, 15, 15)] :: ((wsL_sendBack_r1 ++ (wsL_sendBack_r2 ++ wsL_sendBack_r3)) ++ wsX30 ++ wsX50 ++ wsX10 ++ wsX00 ++ wsX40 ++ wsX20 ++ (vx_atS RX5 65 "java/lang/IllegalStateException" ["java/lang/RuntimeException", "java/lang/Exception"]).filter goodWord ++ (vx_atS RX5 197 "java/lang/IndexOutOfBoundsException" ["java/lang/RuntimeException", "java/lang/Exception"]).filter goodWord)
def wsL_pass_r1 : List Cond := [Cond.classLink RL 13 "java/lang/IllegalArgumentException", Cond.methodLink RL 61 yX5_pass, Cond.instanceMethod yX5_pass, Cond.selects RX5 yX5_pass yX5_pass, Cond.initialized RX5, Cond.code yX5_pass cX5_pass 4 (some .int), Cond.classLink RX5 54 "java/lang/IllegalArgumentException", Cond.initialized "java/lang/IllegalArgumentException", Cond.methodLink RX5 175 yX5_arrivalsOfNextDay, Cond.instanceMethod yX5_arrivalsOfNextDay, Cond.selects RX5 yX5_arrivalsOfNextDay yX5_arrivalsOfNextDay, Cond.code yX5_arrivalsOfNextDay cX5_arrivalsOfNextDay 5 (some .int), Cond.fieldLink RX5 44 "UnionList" "day" "I", Cond.fieldLink RX5 33 "UnionList" "accounts" "LUnionList$Accounts;", Cond.fieldLink RX5 26 "UnionList" "post" "LUnionList$Post;", Cond.fieldLink RX5 218 "UnionList$Post" "size" "I", Cond.methodLink RX5 215 yX0_beginQuarter, Cond.instanceMethod yX0_beginQuarter, Cond.selects RX0 yX0_beginQuarter yX0_beginQuarter, Cond.initialized RX0, Cond.code yX0_beginQuarter cX0_beginQuarter 2 none, Cond.fieldLink RX0 18 "UnionList$Accounts" "freeLoans" "[I", Cond.methodLink RX5 221 yX2_takeArrived, Cond.instanceMethod yX2_takeArrived]
def wsL_pass_r2 : List Cond := [Cond.selects RX2 yX2_takeArrived yX2_takeArrived, Cond.initialized RX2, Cond.code yX2_takeArrived cX2_takeArrived 4 (some (.object "UnionList$Sent")), Cond.fieldLink RX2 21 "UnionList$Post" "size" "I", Cond.fieldLink RX2 15 "UnionList$Post" "waiting" "[LUnionList$Sent;", Cond.fieldLink RX2 25 "UnionList$Sent" "arrival" "I", Cond.methodLink RX5 225 yX5_deliver, Cond.instanceMethod yX5_deliver, Cond.selects RX5 yX5_deliver yX5_deliver, Cond.code yX5_deliver cX5_deliver 4 none, Cond.fieldLink RX5 228 "UnionList$Sent" "copy" "LUnionList$Copy;", Cond.fieldLink RX5 229 "UnionList$Sent" "request" "LUnionList$Request;", Cond.fieldLink RX5 233 "UnionList$Sent" "kind" "I", Cond.fieldLink RX5 87 "UnionList$Copy" "knownToList" "I", Cond.methodLink RX5 236 yX5_answerQuestion, Cond.instanceMethod yX5_answerQuestion, Cond.selects RX5 yX5_answerQuestion yX5_answerQuestion, Cond.code yX5_answerQuestion cX5_answerQuestion 3 none, Cond.fieldLink RX5 131 "UnionList$Request" "state" "I", Cond.fieldLink RX5 98 "UnionList$Copy" "onItsWay" "Z", Cond.fieldLink RX5 146 "UnionList$Request" "house" "I", Cond.fieldLink RX5 149 "UnionList$Copy" "home" "I", Cond.methodLink RX5 83 yX1_canBeSent, Cond.instanceMethod yX1_canBeSent]
def wsL_pass_r3 : List Cond := [Cond.selects RX1 yX1_canBeSent yX1_canBeSent, Cond.initialized RX1, Cond.code yX1_canBeSent cX1_canBeSent 1 (some .boolean), Cond.fieldLink RX1 34 "UnionList$Copy" "harmKnown" "Z", Cond.methodLink RX1 37 yX1_isAtHome, Cond.instanceMethod yX1_isAtHome, Cond.selects RX1 yX1_isAtHome yX1_isAtHome, Cond.code yX1_isAtHome cX1_isAtHome 1 (some .boolean), Cond.fieldLink RX1 21 "UnionList$Copy" "holder" "I", Cond.fieldLink RX1 15 "UnionList$Copy" "home" "I", Cond.fieldLink RX1 24 "UnionList$Copy" "onItsWay" "Z", Cond.methodLink RX5 123 yX5_askNextHome, Cond.instanceMethod yX5_askNextHome, Cond.selects RX5 yX5_askNextHome yX5_askNextHome, Cond.code yX5_askNextHome cX5_askNextHome 3 none, Cond.fieldLink RX5 134 "UnionList$Request" "copy" "LUnionList$Copy;", Cond.methodLink RX5 252 yX5_nearestListedFree, Cond.instanceMethod yX5_nearestListedFree, Cond.selects RX5 yX5_nearestListedFree yX5_nearestListedFree, Cond.code yX5_nearestListedFree cX5_nearestListedFree 9 (some (.object "UnionList$Copy")), Cond.fieldLink RX5 11 "UnionList" "copies" "[LUnionList$Copy;", Cond.methodLink RX5 259 yX3_mayAskFor, Cond.instanceMethod yX3_mayAskFor, Cond.selects RX3 yX3_mayAskFor yX3_mayAskFor]
def wsL_pass_r4 : List Cond := [Cond.initialized RX3, Cond.code yX3_mayAskFor cX3_mayAskFor 3 (some .boolean), Cond.fieldLink RX3 32 "UnionList$Request" "askedHomes" "I", Cond.fieldLink RX3 35 "UnionList$Copy" "home" "I", Cond.fieldLink RX3 40 "UnionList$Copy" "title" "I", Cond.fieldLink RX3 15 "UnionList$Request" "title" "I", Cond.fieldLink RX3 41 "UnionList$Copy" "knownToList" "I", Cond.fieldLink RX3 9 "UnionList$Request" "house" "I", Cond.methodLink RX5 152 yX5_way, Cond.static yX5_way, Cond.code yX5_way cX5_way 2 (some .int), Cond.methodLink RX5 200 Lib.Math.abs.name, Cond.static Lib.Math.abs.name, Cond.initialized "java/lang/Math", Cond.code Lib.Math.abs.name Lib.Math.abs.code 1 (some .int), Cond.methodLink RX5 256 yX3_markAsked, Cond.instanceMethod yX3_markAsked, Cond.selects RX3 yX3_markAsked yX3_markAsked, Cond.code yX3_markAsked cX3_markAsked 2 none, Cond.methodLink RX5 156 yX5_send, Cond.instanceMethod yX5_send, Cond.selects RX5 yX5_send yX5_send, Cond.code yX5_send cX5_send 6 (some .int), Cond.classLink RX5 203 RX4]
def wsL_pass_r5 : List Cond := [Cond.instantiable RX4 4, Cond.initialized RX4, Cond.methodLink RX5 205 yX4_init, Cond.instanceMethod yX4_init, Cond.code yX4_init cX4_init 5 none, Cond.methodLink RX4 1 objectInit, Cond.instanceMethod objectInit, Cond.code objectInit ⟨#[0xb1]⟩ 1 none, Cond.fieldLink RX4 7 "UnionList$Sent" "kind" "I", Cond.fieldLink RX4 13 "UnionList$Sent" "arrival" "I", Cond.fieldLink RX4 16 "UnionList$Sent" "copy" "LUnionList$Copy;", Cond.fieldLink RX4 20 "UnionList$Sent" "request" "LUnionList$Request;", Cond.methodLink RX5 208 yX2_put, Cond.instanceMethod yX2_put, Cond.selects RX2 yX2_put yX2_put, Cond.code yX2_put cX2_put 4 none, Cond.methodLink RX5 72 yX5_sendNews, Cond.instanceMethod yX5_sendNews, Cond.selects RX5 yX5_sendNews yX5_sendNews, Cond.code yX5_sendNews cX5_sendNews 3 none, Cond.methodLink RX5 212 yX5_wayToList, Cond.static yX5_wayToList, Cond.code yX5_wayToList cX5_wayToList 1 (some .int), Cond.methodLink RX5 240 yX5_beginLoan]
def wsL_pass_r6 : List Cond := [Cond.instanceMethod yX5_beginLoan, Cond.selects RX5 yX5_beginLoan yX5_beginLoan, Cond.code yX5_beginLoan cX5_beginLoan 3 none, Cond.fieldLink RX5 80 "UnionList$Copy" "holder" "I", Cond.fieldLink RX5 143 "UnionList$Request" "dueDay" "I", Cond.methodLink RX5 263 yX0_chargeLoan, Cond.instanceMethod yX0_chargeLoan, Cond.selects RX0 yX0_chargeLoan yX0_chargeLoan, Cond.code yX0_chargeLoan cX0_chargeLoan 3 none, Cond.fieldLink RX0 15 "UnionList$Accounts" "homeCopies" "[I", Cond.static yX5_isHouse, Cond.code yX5_isHouse cX5_isHouse 1 (some .boolean), Cond.methodLink RX0 25 yX0_charge, Cond.instanceMethod yX0_charge, Cond.selects RX0 yX0_charge yX0_charge, Cond.code yX0_charge cX0_charge 4 none, Cond.fieldLink RX0 9 "UnionList$Accounts" "debts" "[I", Cond.methodLink RX5 243 yX5_comeHome, Cond.instanceMethod yX5_comeHome, Cond.selects RX5 yX5_comeHome yX5_comeHome, Cond.code yX5_comeHome cX5_comeHome 3 none, Cond.methodLink RX5 104 yX5_examine, Cond.instanceMethod yX5_examine, Cond.selects RX5 yX5_examine yX5_examine]
def wsL_pass_r7 : List Cond := [Cond.code yX5_examine cX5_examine 2 (some .int), Cond.fieldLink RX5 111 "UnionList$Copy" "harmKnown" "Z", Cond.fieldLink RX5 95 "UnionList$Copy" "harmedBy" "I", Cond.methodLink RX5 90 yX1_isHarmed, Cond.instanceMethod yX1_isHarmed, Cond.selects RX1 yX1_isHarmed yX1_isHarmed, Cond.code yX1_isHarmed cX1_isHarmed 1 (some .boolean), Cond.fieldLink RX1 31 "UnionList$Copy" "harmedBy" "I", Cond.methodLink RX5 170 yX0_charge, Cond.methodLink RX5 246 yX5_prolong, Cond.instanceMethod yX5_prolong, Cond.selects RX5 yX5_prolong yX5_prolong, Cond.code yX5_prolong cX5_prolong 2 none, Cond.fieldLink RX5 160 "UnionList$Request" "recallSent" "Z", Cond.methodLink RX5 249 yX5_shorten, Cond.instanceMethod yX5_shorten, Cond.selects RX5 yX5_shorten yX5_shorten, Cond.code yX5_shorten cX5_shorten 2 none, Cond.methodLink RX5 266 Lib.Math.min.name, Cond.static Lib.Math.min.name, Cond.code Lib.Math.min.name Lib.Math.min.code 2 (some .int)]
def wsL_pass : List Cond := .codeWith yL_pass cL_pass 4 (some .int) [(0, 9, 12, 13)] :: ((wsL_pass_r1 ++ (wsL_pass_r2 ++ (wsL_pass_r3 ++ (wsL_pass_r4 ++ (wsL_pass_r5 ++ (wsL_pass_r6 ++ wsL_pass_r7)))))) ++ wsX50 ++ wsX20 ++ wsX00 ++ wsX40 ++ wsX10 ++ wsX30 ++ (vx_atS RX5 58 "java/lang/IllegalArgumentException" ["java/lang/RuntimeException", "java/lang/Exception"]).filter goodWord)
def wsL_owes : List Cond := .codeWith yL_owes cL_owes 5 (some .int) [(0, 10, 13, 13)] :: ([.classLink RL 13 "java/lang/IllegalArgumentException", .methodLink RL 64 yX5_owes, .instanceMethod yX5_owes, .selects RX5 yX5_owes yX5_owes, .initialized RX5, .code yX5_owes cX5_owes 3 (some .int), .classLink RX5 54 "java/lang/IllegalArgumentException", .initialized "java/lang/IllegalArgumentException", .fieldLink RX5 33 "UnionList" "accounts" "LUnionList$Accounts;", .methodLink RX5 47 yX5_isHouse, .static yX5_isHouse, .code yX5_isHouse cX5_isHouse 1 (some .boolean), .methodLink RX5 181 yX0_balance, .instanceMethod yX0_balance, .selects RX0 yX0_balance yX0_balance, .initialized RX0, .code yX0_balance cX0_balance 3 (some .int), .fieldLink RX0 9 "UnionList$Accounts" "debts" "[I"] ++ wsX50 ++ wsX00 ++ (vx_atS RX5 58 "java/lang/IllegalArgumentException" ["java/lang/RuntimeException", "java/lang/Exception"]).filter goodWord)
def wsL_quota : List Cond := .codeWith yL_quota cL_quota 4 (some .int) [(0, 9, 12, 13)] :: ([.classLink RL 13 "java/lang/IllegalArgumentException", .methodLink RL 67 yX5_quota, .instanceMethod yX5_quota, .selects RX5 yX5_quota yX5_quota, .initialized RX5, .code yX5_quota cX5_quota 2 (some .int), .classLink RX5 54 "java/lang/IllegalArgumentException", .initialized "java/lang/IllegalArgumentException", .fieldLink RX5 33 "UnionList" "accounts" "LUnionList$Accounts;", .methodLink RX5 47 yX5_isHouse, .static yX5_isHouse, .code yX5_isHouse cX5_isHouse 1 (some .boolean), .methodLink RX5 189 yX0_freeLoansOf, .instanceMethod yX0_freeLoansOf, .selects RX0 yX0_freeLoansOf yX0_freeLoansOf, .initialized RX0, .code yX0_freeLoansOf cX0_freeLoansOf 2 (some .int), .fieldLink RX0 18 "UnionList$Accounts" "freeLoans" "[I"] ++ wsX50 ++ wsX00 ++ (vx_atS RX5 58 "java/lang/IllegalArgumentException" ["java/lang/RuntimeException", "java/lang/Exception"]).filter goodWord)
def wsL_law0_r1 : List Cond := [Cond.classLink RL 8 RX5, Cond.instantiable RX5 7, Cond.initialized RX5, Cond.classLink RL 71 RX6, Cond.instantiable RX6 24, Cond.initialized RX6, Cond.arrayClass .long, Cond.methodLink RL 70 yX5_init, Cond.instanceMethod yX5_init, Cond.code yX5_init cX5_init 1 none, Cond.methodLink RX5 1 objectInit, Cond.instanceMethod objectInit, Cond.code objectInit ⟨#[0xb1]⟩ 1 none, Cond.classLink RX5 9 RX1, Cond.fieldLink RX5 11 "UnionList" "copies" "[LUnionList$Copy;", Cond.classLink RX5 15 RX3, Cond.fieldLink RX5 17 "UnionList" "requests" "[LUnionList$Request;", Cond.classLink RX5 21 RX2, Cond.instantiable RX2 2, Cond.initialized RX2, Cond.fieldLink RX5 26 "UnionList" "post" "LUnionList$Post;", Cond.classLink RX5 30 RX0, Cond.instantiable RX0 3, Cond.initialized RX0]
def wsL_law0_r2 : List Cond := [Cond.fieldLink RX5 33 "UnionList" "accounts" "LUnionList$Accounts;", Cond.fieldLink RX5 37 "UnionList" "copyCount" "I", Cond.fieldLink RX5 41 "UnionList" "requestCount" "I", Cond.fieldLink RX5 44 "UnionList" "day" "I", Cond.methodLink RX5 23 yX2_init, Cond.instanceMethod yX2_init, Cond.code yX2_init cX2_init 2 none, Cond.methodLink RX2 1 objectInit, Cond.methodLink RX2 7 Lib.Math.max.name, Cond.static Lib.Math.max.name, Cond.initialized "java/lang/Math", Cond.code Lib.Math.max.name Lib.Math.max.code 2 (some .int), Cond.classLink RX2 13 RX4, Cond.fieldLink RX2 15 "UnionList$Post" "waiting" "[LUnionList$Sent;", Cond.fieldLink RX2 21 "UnionList$Post" "size" "I", Cond.methodLink RX5 32 yX0_init, Cond.instanceMethod yX0_init, Cond.code yX0_init cX0_init 1 none, Cond.methodLink RX0 3 objectInit, Cond.arrayClass .int, Cond.fieldLink RX0 9 "UnionList$Accounts" "debts" "[I", Cond.fieldLink RX0 15 "UnionList$Accounts" "homeCopies" "[I", Cond.fieldLink RX0 18 "UnionList$Accounts" "freeLoans" "[I", Cond.methodLink RL 73 yX6_init]
def wsL_law0_r3 : List Cond := [Cond.instanceMethod yX6_init, Cond.code yX6_init cX6_init 1 none, Cond.methodLink RX6 1 objectInit, Cond.fieldLink RX6 7 "UnionListModel" "home" "[I", Cond.fieldLink RX6 13 "UnionListModel" "title" "[I", Cond.fieldLink RX6 16 "UnionListModel" "place" "[I", Cond.fieldLink RX6 19 "UnionListModel" "hands" "[I", Cond.fieldLink RX6 22 "UnionListModel" "knows" "[I", Cond.fieldLink RX6 25 "UnionListModel" "harmed" "[I", Cond.fieldLink RX6 28 "UnionListModel" "seen" "[I", Cond.fieldLink RX6 31 "UnionListModel" "whose" "[I", Cond.fieldLink RX6 34 "UnionListModel" "wanted" "[I", Cond.fieldLink RX6 37 "UnionListModel" "stage" "[I", Cond.fieldLink RX6 40 "UnionListModel" "loaned" "[I", Cond.fieldLink RX6 43 "UnionListModel" "until" "[I", Cond.fieldLink RX6 46 "UnionListModel" "asked" "[I", Cond.fieldLink RX6 49 "UnionListModel" "called" "[I", Cond.fieldLink RX6 52 "UnionListModel" "kind" "[I", Cond.fieldLink RX6 55 "UnionListModel" "what" "[I", Cond.fieldLink RX6 58 "UnionListModel" "day" "[I", Cond.fieldLink RX6 61 "UnionListModel" "debt" "[I", Cond.fieldLink RX6 64 "UnionListModel" "spared" "[I", Cond.methodLink RL 74 yL_addCopy, Cond.static yL_addCopy]
def wsL_law0_r4 : List Cond := [Cond.initialized RL, Cond.codeWith yL_addCopy cL_addCopy 5 (some .int) [(0, 10, 13, 13), (0, 10, 17, 15)], Cond.classLink RL 13 "java/lang/IllegalArgumentException", Cond.classLink RL 15 "java/lang/IllegalStateException", Cond.methodLink RL 7 yX5_addCopy, Cond.instanceMethod yX5_addCopy, Cond.selects RX5 yX5_addCopy yX5_addCopy, Cond.code yX5_addCopy cX5_addCopy 5 (some .int), Cond.classLink RX5 54 "java/lang/IllegalArgumentException", Cond.initialized "java/lang/IllegalArgumentException", Cond.classLink RX5 61 "java/lang/IllegalStateException", Cond.initialized "java/lang/IllegalStateException", Cond.instantiable RX1 8, Cond.initialized RX1, Cond.methodLink RX5 47 yX5_isHouse, Cond.static yX5_isHouse, Cond.code yX5_isHouse cX5_isHouse 1 (some .boolean), Cond.methodLink RX5 51 yX5_isTitle, Cond.static yX5_isTitle, Cond.code yX5_isTitle cX5_isTitle 1 (some .boolean), Cond.methodLink RX5 66 yX1_init, Cond.instanceMethod yX1_init, Cond.code yX1_init cX1_init 4 none, Cond.methodLink RX1 3 objectInit]
def wsL_law0_r5 : List Cond := [Cond.fieldLink RX1 9 "UnionList$Copy" "number" "I", Cond.fieldLink RX1 15 "UnionList$Copy" "home" "I", Cond.fieldLink RX1 18 "UnionList$Copy" "title" "I", Cond.fieldLink RX1 21 "UnionList$Copy" "holder" "I", Cond.fieldLink RX1 24 "UnionList$Copy" "onItsWay" "Z", Cond.fieldLink RX1 28 "UnionList$Copy" "knownToList" "I", Cond.fieldLink RX1 31 "UnionList$Copy" "harmedBy" "I", Cond.fieldLink RX1 34 "UnionList$Copy" "harmKnown" "Z", Cond.methodLink RX5 69 yX0_countHomeCopy, Cond.instanceMethod yX0_countHomeCopy, Cond.selects RX0 yX0_countHomeCopy yX0_countHomeCopy, Cond.code yX0_countHomeCopy cX0_countHomeCopy 2 none, Cond.methodLink RX5 72 yX5_sendNews, Cond.instanceMethod yX5_sendNews, Cond.selects RX5 yX5_sendNews yX5_sendNews, Cond.code yX5_sendNews cX5_sendNews 3 none, Cond.fieldLink RX5 149 "UnionList$Copy" "home" "I", Cond.methodLink RX5 212 yX5_wayToList, Cond.static yX5_wayToList, Cond.code yX5_wayToList cX5_wayToList 1 (some .int), Cond.methodLink RX5 156 yX5_send, Cond.instanceMethod yX5_send, Cond.selects RX5 yX5_send yX5_send, Cond.code yX5_send cX5_send 6 (some .int)]
def wsL_law0_r6 : List Cond := [Cond.classLink RX5 203 RX4, Cond.instantiable RX4 4, Cond.initialized RX4, Cond.methodLink RX5 205 yX4_init, Cond.instanceMethod yX4_init, Cond.code yX4_init cX4_init 5 none, Cond.methodLink RX4 1 objectInit, Cond.fieldLink RX4 7 "UnionList$Sent" "kind" "I", Cond.fieldLink RX4 13 "UnionList$Sent" "arrival" "I", Cond.fieldLink RX4 16 "UnionList$Sent" "copy" "LUnionList$Copy;", Cond.fieldLink RX4 20 "UnionList$Sent" "request" "LUnionList$Request;", Cond.methodLink RX5 208 yX2_put, Cond.instanceMethod yX2_put, Cond.selects RX2 yX2_put yX2_put, Cond.code yX2_put cX2_put 4 none, Cond.fieldLink RX2 25 "UnionList$Sent" "arrival" "I", Cond.methodLink RL 79 yX6_addCopy, Cond.instanceMethod yX6_addCopy, Cond.selects RX6 yX6_addCopy yX6_addCopy, Cond.code yX6_addCopy cX6_addCopy 3 (some .int), Cond.fieldLink RX6 75 "UnionListModel" "copies" "I", Cond.methodLink RX6 91 yX6_isHouse, Cond.instanceMethod yX6_isHouse, Cond.selects RX6 yX6_isHouse yX6_isHouse]
def wsL_law0_r7 : List Cond := [Cond.code yX6_isHouse cX6_isHouse 2 (some .boolean), Cond.methodLink RX6 71 yX6_between, Cond.instanceMethod yX6_between, Cond.selects RX6 yX6_between yX6_between, Cond.code yX6_between cX6_between 4 (some .boolean), Cond.methodLink RX6 95 yX6_holds, Cond.instanceMethod yX6_holds, Cond.selects RX6 yX6_holds yX6_holds, Cond.code yX6_holds cX6_holds 2 (some .boolean), Cond.fieldLink RX6 67 "UnionListModel" "thrown" "I", Cond.methodLink RX6 98 yX6_tell, Cond.instanceMethod yX6_tell, Cond.selects RX6 yX6_tell yX6_tell, Cond.code yX6_tell cX6_tell 3 none, Cond.methodLink RX6 87 yX6_send, Cond.instanceMethod yX6_send, Cond.selects RX6 yX6_send yX6_send, Cond.code yX6_send cX6_send 4 (some .int), Cond.fieldLink RX6 81 "UnionListModel" "under" "I", Cond.fieldLink RX6 84 "UnionListModel" "now" "I", Cond.methodLink RL 80 yX6_thrown, Cond.instanceMethod yX6_thrown, Cond.selects RX6 yX6_thrown yX6_thrown, Cond.code yX6_thrown cX6_thrown 1 (some .int)]
def wsL_law0_r8 : List Cond := [Cond.methodLink RL 84 yL_inHandsOf, Cond.static yL_inHandsOf, Cond.codeWith yL_inHandsOf cL_inHandsOf 4 (some .int) [(0, 9, 12, 21)], Cond.classLink RL 21 "java/lang/IndexOutOfBoundsException", Cond.methodLink RL 17 yX5_inHandsOf, Cond.instanceMethod yX5_inHandsOf, Cond.selects RX5 yX5_inHandsOf yX5_inHandsOf, Cond.code yX5_inHandsOf cX5_inHandsOf 2 (some .int), Cond.fieldLink RX5 80 "UnionList$Copy" "holder" "I", Cond.methodLink RX5 76 yX5_copyNumbered, Cond.instanceMethod yX5_copyNumbered, Cond.selects RX5 yX5_copyNumbered yX5_copyNumbered, Cond.code yX5_copyNumbered cX5_copyNumbered 3 (some (.object "UnionList$Copy")), Cond.classLink RX5 193 "java/lang/IndexOutOfBoundsException", Cond.initialized "java/lang/IndexOutOfBoundsException", Cond.methodLink RL 87 yX6_inHandsOf, Cond.instanceMethod yX6_inHandsOf, Cond.selects RX6 yX6_inHandsOf yX6_inHandsOf, Cond.code yX6_inHandsOf cX6_inHandsOf 2 (some .int), Cond.methodLink RX6 102 yX6_isCopy, Cond.instanceMethod yX6_isCopy, Cond.selects RX6 yX6_isCopy yX6_isCopy, Cond.code yX6_isCopy cX6_isCopy 2 (some .boolean), Cond.methodLink RL 88 yL_isFree]
def wsL_law0_r9 : List Cond := [Cond.static yL_isFree, Cond.codeWith yL_isFree cL_isFree 4 (some .int) [(0, 16, 19, 21)], Cond.methodLink RL 23 yX5_isFree, Cond.instanceMethod yX5_isFree, Cond.selects RX5 yX5_isFree yX5_isFree, Cond.code yX5_isFree cX5_isFree 2 (some .boolean), Cond.methodLink RX5 83 yX1_canBeSent, Cond.instanceMethod yX1_canBeSent, Cond.selects RX1 yX1_canBeSent yX1_canBeSent, Cond.code yX1_canBeSent cX1_canBeSent 1 (some .boolean), Cond.methodLink RX1 37 yX1_isAtHome, Cond.instanceMethod yX1_isAtHome, Cond.selects RX1 yX1_isAtHome yX1_isAtHome, Cond.code yX1_isAtHome cX1_isAtHome 1 (some .boolean), Cond.methodLink RL 90 yX6_isFree, Cond.instanceMethod yX6_isFree, Cond.selects RX6 yX6_isFree yX6_isFree, Cond.code yX6_isFree cX6_isFree 2 (some .boolean), Cond.methodLink RX6 105 yX6_free, Cond.instanceMethod yX6_free, Cond.selects RX6 yX6_free yX6_free, Cond.code yX6_free cX6_free 2 (some .boolean), Cond.methodLink RL 91 yL_listed, Cond.static yL_listed]
def wsL_law0_r10 : List Cond := [Cond.codeWith yL_listed cL_listed 4 (some .int) [(0, 9, 12, 21)], Cond.methodLink RL 27 yX5_listed, Cond.instanceMethod yX5_listed, Cond.selects RX5 yX5_listed yX5_listed, Cond.code yX5_listed cX5_listed 2 (some .int), Cond.fieldLink RX5 87 "UnionList$Copy" "knownToList" "I", Cond.methodLink RL 93 yX6_listed, Cond.instanceMethod yX6_listed, Cond.selects RX6 yX6_listed yX6_listed, Cond.code yX6_listed cX6_listed 2 (some .int), Cond.methodLink RL 94 yL_harm, Cond.static yL_harm, Cond.codeWith yL_harm cL_harm 4 (some .int) [(0, 9, 12, 21), (0, 9, 15, 15)], Cond.methodLink RL 30 yX5_harm, Cond.instanceMethod yX5_harm, Cond.selects RX5 yX5_harm yX5_harm, Cond.code yX5_harm cX5_harm 3 (some .int), Cond.fieldLink RX5 95 "UnionList$Copy" "harmedBy" "I", Cond.methodLink RX5 90 yX1_isHarmed, Cond.instanceMethod yX1_isHarmed, Cond.selects RX1 yX1_isHarmed yX1_isHarmed, Cond.code yX1_isHarmed cX1_isHarmed 1 (some .boolean), Cond.methodLink RL 96 yX6_harm, Cond.instanceMethod yX6_harm]
def wsL_law0_r11 : List Cond := [Cond.selects RX6 yX6_harm yX6_harm, Cond.code yX6_harm cX6_harm 2 (some .int), Cond.methodLink RL 97 yL_look, Cond.static yL_look, Cond.codeWith yL_look cL_look 4 (some .int) [(0, 9, 12, 21), (0, 9, 15, 15)], Cond.methodLink RL 33 yX5_look, Cond.instanceMethod yX5_look, Cond.selects RX5 yX5_look yX5_look, Cond.code yX5_look cX5_look 3 (some .int), Cond.fieldLink RX5 98 "UnionList$Copy" "onItsWay" "Z", Cond.methodLink RX5 104 yX5_examine, Cond.instanceMethod yX5_examine, Cond.selects RX5 yX5_examine yX5_examine, Cond.code yX5_examine cX5_examine 2 (some .int), Cond.fieldLink RX5 111 "UnionList$Copy" "harmKnown" "Z", Cond.methodLink RX5 170 yX0_charge, Cond.instanceMethod yX0_charge, Cond.selects RX0 yX0_charge yX0_charge, Cond.code yX0_charge cX0_charge 4 none, Cond.methodLink RL 99 yX6_look, Cond.instanceMethod yX6_look, Cond.selects RX6 yX6_look yX6_look, Cond.code yX6_look cX6_look 2 (some .int), Cond.methodLink RX6 112 yX6_find]
def wsL_law0_r12 : List Cond := [Cond.instanceMethod yX6_find, Cond.selects RX6 yX6_find yX6_find, Cond.code yX6_find cX6_find 2 (some .int), Cond.methodLink RX6 108 yX6_owe, Cond.instanceMethod yX6_owe, Cond.selects RX6 yX6_owe yX6_owe, Cond.code yX6_owe cX6_owe 4 none, Cond.methodLink RL 100 yL_mend, Cond.static yL_mend, Cond.codeWith yL_mend cL_mend 3 (some .int) [(0, 5, 8, 21), (0, 5, 11, 15)], Cond.methodLink RL 36 yX5_mend, Cond.instanceMethod yX5_mend, Cond.selects RX5 yX5_mend yX5_mend, Cond.code yX5_mend cX5_mend 3 none, Cond.methodLink RX5 108 yX1_isAtHome, Cond.methodLink RL 103 yX6_mend, Cond.instanceMethod yX6_mend, Cond.selects RX6 yX6_mend yX6_mend, Cond.code yX6_mend cX6_mend 2 none, Cond.methodLink RL 104 yL_request, Cond.static yL_request, Cond.codeWith yL_request cL_request 5 (some .int) [(0, 10, 13, 13), (0, 10, 17, 15)], Cond.methodLink RL 40 yX5_request, Cond.instanceMethod yX5_request]
def wsL_law0_r13 : List Cond := [Cond.selects RX5 yX5_request yX5_request, Cond.code yX5_request cX5_request 5 (some .int), Cond.instantiable RX3 7, Cond.initialized RX3, Cond.methodLink RX5 120 yX3_init, Cond.instanceMethod yX3_init, Cond.code yX3_init cX3_init 3 none, Cond.methodLink RX3 3 objectInit, Cond.fieldLink RX3 9 "UnionList$Request" "house" "I", Cond.fieldLink RX3 15 "UnionList$Request" "title" "I", Cond.fieldLink RX3 18 "UnionList$Request" "copy" "LUnionList$Copy;", Cond.fieldLink RX3 22 "UnionList$Request" "state" "I", Cond.fieldLink RX3 25 "UnionList$Request" "dueDay" "I", Cond.fieldLink RX3 28 "UnionList$Request" "recallSent" "Z", Cond.fieldLink RX3 32 "UnionList$Request" "askedHomes" "I", Cond.methodLink RX5 123 yX5_askNextHome, Cond.instanceMethod yX5_askNextHome, Cond.selects RX5 yX5_askNextHome yX5_askNextHome, Cond.code yX5_askNextHome cX5_askNextHome 3 none, Cond.fieldLink RX5 134 "UnionList$Request" "copy" "LUnionList$Copy;", Cond.fieldLink RX5 131 "UnionList$Request" "state" "I", Cond.fieldLink RX5 146 "UnionList$Request" "house" "I", Cond.methodLink RX5 252 yX5_nearestListedFree, Cond.instanceMethod yX5_nearestListedFree]
def wsL_law0_r14 : List Cond := [Cond.selects RX5 yX5_nearestListedFree yX5_nearestListedFree, Cond.code yX5_nearestListedFree cX5_nearestListedFree 9 (some (.object "UnionList$Copy")), Cond.methodLink RX5 259 yX3_mayAskFor, Cond.instanceMethod yX3_mayAskFor, Cond.selects RX3 yX3_mayAskFor yX3_mayAskFor, Cond.code yX3_mayAskFor cX3_mayAskFor 3 (some .boolean), Cond.fieldLink RX3 35 "UnionList$Copy" "home" "I", Cond.fieldLink RX3 40 "UnionList$Copy" "title" "I", Cond.fieldLink RX3 41 "UnionList$Copy" "knownToList" "I", Cond.methodLink RX5 152 yX5_way, Cond.static yX5_way, Cond.code yX5_way cX5_way 2 (some .int), Cond.methodLink RX5 200 Lib.Math.abs.name, Cond.static Lib.Math.abs.name, Cond.code Lib.Math.abs.name Lib.Math.abs.code 1 (some .int), Cond.methodLink RX5 256 yX3_markAsked, Cond.instanceMethod yX3_markAsked, Cond.selects RX3 yX3_markAsked yX3_markAsked, Cond.code yX3_markAsked cX3_markAsked 2 none, Cond.methodLink RL 106 yX6_request, Cond.instanceMethod yX6_request, Cond.selects RX6 yX6_request yX6_request, Cond.code yX6_request cX6_request 3 (some .int), Cond.fieldLink RX6 78 "UnionListModel" "requests" "I"]
def wsL_law0_r15 : List Cond := [Cond.methodLink RX6 120 yX6_ask, Cond.instanceMethod yX6_ask, Cond.selects RX6 yX6_ask yX6_ask, Cond.code yX6_ask cX6_ask 5 none, Cond.methodLink RX6 116 yX6_way, Cond.instanceMethod yX6_way, Cond.selects RX6 yX6_way yX6_way, Cond.code yX6_way cX6_way 3 (some .int), Cond.methodLink RL 107 yL_state, Cond.static yL_state, Cond.codeWith yL_state cL_state 4 (some .int) [(0, 9, 12, 21)], Cond.methodLink RL 43 yX5_state, Cond.instanceMethod yX5_state, Cond.selects RX5 yX5_state yX5_state, Cond.code yX5_state cX5_state 2 (some .int), Cond.methodLink RX5 127 yX5_requestNumbered, Cond.instanceMethod yX5_requestNumbered, Cond.selects RX5 yX5_requestNumbered yX5_requestNumbered, Cond.code yX5_requestNumbered cX5_requestNumbered 3 (some (.object "UnionList$Request")), Cond.methodLink RL 109 yX6_state, Cond.instanceMethod yX6_state, Cond.selects RX6 yX6_state yX6_state, Cond.code yX6_state cX6_state 2 (some .int), Cond.methodLink RX6 124 yX6_isRequest]
def wsL_law0_r16 : List Cond := [Cond.instanceMethod yX6_isRequest, Cond.selects RX6 yX6_isRequest yX6_isRequest, Cond.code yX6_isRequest cX6_isRequest 2 (some .boolean), Cond.methodLink RL 110 yL_copyOf, Cond.static yL_copyOf, Cond.codeWith yL_copyOf cL_copyOf 4 (some .int) [(0, 9, 12, 21)], Cond.methodLink RL 46 yX5_copyOf, Cond.instanceMethod yX5_copyOf, Cond.selects RX5 yX5_copyOf yX5_copyOf, Cond.code yX5_copyOf cX5_copyOf 3 (some .int), Cond.fieldLink RX5 138 "UnionList$Copy" "number" "I", Cond.methodLink RL 112 yX6_copyOf, Cond.instanceMethod yX6_copyOf, Cond.selects RX6 yX6_copyOf yX6_copyOf, Cond.code yX6_copyOf cX6_copyOf 2 (some .int), Cond.methodLink RL 113 yL_due, Cond.static yL_due, Cond.codeWith yL_due cL_due 4 (some .int) [(0, 9, 12, 21), (0, 9, 15, 15)], Cond.methodLink RL 49 yX5_due, Cond.instanceMethod yX5_due, Cond.selects RX5 yX5_due yX5_due, Cond.code yX5_due cX5_due 3 (some .int), Cond.fieldLink RX5 143 "UnionList$Request" "dueDay" "I", Cond.methodLink RL 115 yX6_due]
def wsL_law0_r17 : List Cond := [Cond.instanceMethod yX6_due, Cond.selects RX6 yX6_due yX6_due, Cond.code yX6_due cX6_due 2 (some .int), Cond.methodLink RX6 127 yX6_refuses, Cond.instanceMethod yX6_refuses, Cond.selects RX6 yX6_refuses yX6_refuses, Cond.code yX6_refuses cX6_refuses 2 (some .int), Cond.methodLink RL 116 yL_renew, Cond.static yL_renew, Cond.codeWith yL_renew cL_renew 4 (some .int) [(0, 9, 12, 21), (0, 9, 15, 15)], Cond.methodLink RL 52 yX5_renew, Cond.instanceMethod yX5_renew, Cond.selects RX5 yX5_renew yX5_renew, Cond.code yX5_renew cX5_renew 4 (some .int), Cond.methodLink RL 118 yX6_renew, Cond.instanceMethod yX6_renew, Cond.selects RX6 yX6_renew yX6_renew, Cond.code yX6_renew cX6_renew 2 (some .int), Cond.methodLink RX6 130 yX6_length, Cond.instanceMethod yX6_length, Cond.selects RX6 yX6_length yX6_length, Cond.code yX6_length cX6_length 2 (some .int), Cond.methodLink RL 119 yL_recall, Cond.static yL_recall]
def wsL_law0_r18 : List Cond := [Cond.codeWith yL_recall cL_recall 4 (some .int) [(0, 9, 12, 21), (0, 9, 15, 15)], Cond.methodLink RL 55 yX5_recall, Cond.instanceMethod yX5_recall, Cond.selects RX5 yX5_recall yX5_recall, Cond.code yX5_recall cX5_recall 4 (some .int), Cond.fieldLink RX5 160 "UnionList$Request" "recallSent" "Z", Cond.methodLink RL 121 yX6_recall, Cond.instanceMethod yX6_recall, Cond.selects RX6 yX6_recall yX6_recall, Cond.code yX6_recall cX6_recall 2 (some .int), Cond.methodLink RL 122 yL_sendBack, Cond.static yL_sendBack, Cond.codeWith yL_sendBack cL_sendBack 4 (some .int) [(0, 9, 12, 21), (0, 9, 15, 15)], Cond.methodLink RL 58 yX5_sendBack, Cond.instanceMethod yX5_sendBack, Cond.selects RX5 yX5_sendBack yX5_sendBack, Cond.code yX5_sendBack cX5_sendBack 5 (some .int), Cond.methodLink RX5 165 Lib.Math.max.name, Cond.methodLink RL 124 yX6_sendBack, Cond.instanceMethod yX6_sendBack, Cond.selects RX6 yX6_sendBack yX6_sendBack, Cond.code yX6_sendBack cX6_sendBack 4 (some .int), Cond.methodLink RL 125 yL_pass, Cond.static yL_pass]
def wsL_law0_r19 : List Cond := [Cond.codeWith yL_pass cL_pass 4 (some .int) [(0, 9, 12, 13)], Cond.methodLink RL 61 yX5_pass, Cond.instanceMethod yX5_pass, Cond.selects RX5 yX5_pass yX5_pass, Cond.code yX5_pass cX5_pass 4 (some .int), Cond.methodLink RX5 175 yX5_arrivalsOfNextDay, Cond.instanceMethod yX5_arrivalsOfNextDay, Cond.selects RX5 yX5_arrivalsOfNextDay yX5_arrivalsOfNextDay, Cond.code yX5_arrivalsOfNextDay cX5_arrivalsOfNextDay 5 (some .int), Cond.fieldLink RX5 218 "UnionList$Post" "size" "I", Cond.methodLink RX5 215 yX0_beginQuarter, Cond.instanceMethod yX0_beginQuarter, Cond.selects RX0 yX0_beginQuarter yX0_beginQuarter, Cond.code yX0_beginQuarter cX0_beginQuarter 2 none, Cond.methodLink RX5 221 yX2_takeArrived, Cond.instanceMethod yX2_takeArrived, Cond.selects RX2 yX2_takeArrived yX2_takeArrived, Cond.code yX2_takeArrived cX2_takeArrived 4 (some (.object "UnionList$Sent")), Cond.methodLink RX5 225 yX5_deliver, Cond.instanceMethod yX5_deliver, Cond.selects RX5 yX5_deliver yX5_deliver, Cond.code yX5_deliver cX5_deliver 4 none, Cond.fieldLink RX5 228 "UnionList$Sent" "copy" "LUnionList$Copy;", Cond.fieldLink RX5 229 "UnionList$Sent" "request" "LUnionList$Request;"]
def wsL_law0_r20 : List Cond := [Cond.fieldLink RX5 233 "UnionList$Sent" "kind" "I", Cond.methodLink RX5 236 yX5_answerQuestion, Cond.instanceMethod yX5_answerQuestion, Cond.selects RX5 yX5_answerQuestion yX5_answerQuestion, Cond.code yX5_answerQuestion cX5_answerQuestion 3 none, Cond.methodLink RX5 240 yX5_beginLoan, Cond.instanceMethod yX5_beginLoan, Cond.selects RX5 yX5_beginLoan yX5_beginLoan, Cond.code yX5_beginLoan cX5_beginLoan 3 none, Cond.methodLink RX5 263 yX0_chargeLoan, Cond.instanceMethod yX0_chargeLoan, Cond.selects RX0 yX0_chargeLoan yX0_chargeLoan, Cond.code yX0_chargeLoan cX0_chargeLoan 3 none, Cond.methodLink RX0 25 yX0_charge, Cond.methodLink RX5 243 yX5_comeHome, Cond.instanceMethod yX5_comeHome, Cond.selects RX5 yX5_comeHome yX5_comeHome, Cond.code yX5_comeHome cX5_comeHome 3 none, Cond.methodLink RX5 246 yX5_prolong, Cond.instanceMethod yX5_prolong, Cond.selects RX5 yX5_prolong yX5_prolong, Cond.code yX5_prolong cX5_prolong 2 none, Cond.methodLink RX5 249 yX5_shorten, Cond.instanceMethod yX5_shorten]
def wsL_law0_r21 : List Cond := [Cond.selects RX5 yX5_shorten yX5_shorten, Cond.code yX5_shorten cX5_shorten 2 none, Cond.methodLink RX5 266 Lib.Math.min.name, Cond.static Lib.Math.min.name, Cond.code Lib.Math.min.name Lib.Math.min.code 2 (some .int), Cond.methodLink RL 127 yX6_pass, Cond.instanceMethod yX6_pass, Cond.selects RX6 yX6_pass yX6_pass, Cond.code yX6_pass cX6_pass 5 (some .int), Cond.methodLink RX6 145 yX6_arriveAll, Cond.instanceMethod yX6_arriveAll, Cond.selects RX6 yX6_arriveAll yX6_arriveAll, Cond.code yX6_arriveAll cX6_arriveAll 5 (some .int), Cond.methodLink RX6 142 yX6_arrive, Cond.instanceMethod yX6_arrive, Cond.selects RX6 yX6_arrive yX6_arrive, Cond.code yX6_arrive cX6_arrive 3 none, Cond.methodLink RX6 136 yX6_answer, Cond.instanceMethod yX6_answer, Cond.selects RX6 yX6_answer yX6_answer, Cond.code yX6_answer cX6_answer 3 none, Cond.methodLink RX6 139 yX6_come, Cond.instanceMethod yX6_come, Cond.selects RX6 yX6_come yX6_come]
def wsL_law0_r22 : List Cond := [Cond.code yX6_come cX6_come 5 none, Cond.methodLink RX6 133 yX6_homes, Cond.instanceMethod yX6_homes, Cond.selects RX6 yX6_homes yX6_homes, Cond.code yX6_homes cX6_homes 4 (some .int), Cond.methodLink RL 128 yX5_today, Cond.instanceMethod yX5_today, Cond.selects RX5 yX5_today yX5_today, Cond.code yX5_today cX5_today 1 (some .int), Cond.methodLink RL 131 yX6_today, Cond.instanceMethod yX6_today, Cond.selects RX6 yX6_today yX6_today, Cond.code yX6_today cX6_today 1 (some .int), Cond.methodLink RX6 149 yX6_plain, Cond.instanceMethod yX6_plain, Cond.selects RX6 yX6_plain yX6_plain, Cond.code yX6_plain cX6_plain 2 (some .int), Cond.methodLink RL 132 yL_owes, Cond.static yL_owes, Cond.codeWith yL_owes cL_owes 5 (some .int) [(0, 10, 13, 13)], Cond.methodLink RL 64 yX5_owes, Cond.instanceMethod yX5_owes, Cond.selects RX5 yX5_owes yX5_owes, Cond.code yX5_owes cX5_owes 3 (some .int)]
def wsL_law0_r23 : List Cond := [Cond.methodLink RX5 181 yX0_balance, Cond.instanceMethod yX0_balance, Cond.selects RX0 yX0_balance yX0_balance, Cond.code yX0_balance cX0_balance 3 (some .int), Cond.methodLink RL 134 yX6_owes, Cond.instanceMethod yX6_owes, Cond.selects RX6 yX6_owes yX6_owes, Cond.code yX6_owes cX6_owes 3 (some .int), Cond.methodLink RL 135 yX5_settle, Cond.instanceMethod yX5_settle, Cond.selects RX5 yX5_settle yX5_settle, Cond.code yX5_settle cX5_settle 1 (some .int), Cond.methodLink RX5 184 yX0_clearDebts, Cond.instanceMethod yX0_clearDebts, Cond.selects RX0 yX0_clearDebts yX0_clearDebts, Cond.code yX0_clearDebts cX0_clearDebts 4 (some .int), Cond.methodLink RX0 29 yX0_balance, Cond.methodLink RL 138 yX6_settle, Cond.instanceMethod yX6_settle, Cond.selects RX6 yX6_settle yX6_settle, Cond.code yX6_settle cX6_settle 3 (some .int), Cond.methodLink RL 139 yL_quota, Cond.static yL_quota, Cond.codeWith yL_quota cL_quota 4 (some .int) [(0, 9, 12, 13)]]
def wsL_law0_r24 : List Cond := [Cond.methodLink RL 67 yX5_quota, Cond.instanceMethod yX5_quota, Cond.selects RX5 yX5_quota yX5_quota, Cond.code yX5_quota cX5_quota 2 (some .int), Cond.methodLink RX5 189 yX0_freeLoansOf, Cond.instanceMethod yX0_freeLoansOf, Cond.selects RX0 yX0_freeLoansOf yX0_freeLoansOf, Cond.code yX0_freeLoansOf cX0_freeLoansOf 2 (some .int), Cond.methodLink RL 141 yX6_quota, Cond.instanceMethod yX6_quota, Cond.selects RX6 yX6_quota yX6_quota, Cond.code yX6_quota cX6_quota 2 (some .int)]
def wsL_law0 : List Cond := (wsL_law0_r1 ++ (wsL_law0_r2 ++ (wsL_law0_r3 ++ (wsL_law0_r4 ++ (wsL_law0_r5 ++ (wsL_law0_r6 ++ (wsL_law0_r7 ++ (wsL_law0_r8 ++ (wsL_law0_r9 ++ (wsL_law0_r10 ++ (wsL_law0_r11 ++ (wsL_law0_r12 ++ (wsL_law0_r13 ++ (wsL_law0_r14 ++ (wsL_law0_r15 ++ (wsL_law0_r16 ++ (wsL_law0_r17 ++ (wsL_law0_r18 ++ (wsL_law0_r19 ++ (wsL_law0_r20 ++ (wsL_law0_r21 ++ (wsL_law0_r22 ++ (wsL_law0_r23 ++ wsL_law0_r24))))))))))))))))))))))) ++ wsX50 ++ wsX60 ++ wsX20 ++ wsX00 ++ wsX10 ++ wsX40 ++ wsX30 ++ ([] : List Cond)
def wsL_law : List Cond := wsL_law0 ++ (vx_atS RX5 58 "java/lang/IllegalArgumentException" ["java/lang/RuntimeException", "java/lang/Exception"]).filter goodWord ++ (vx_atS RX5 65 "java/lang/IllegalStateException" ["java/lang/RuntimeException", "java/lang/Exception"]).filter goodWord ++ (vx_atS RX5 197 "java/lang/IndexOutOfBoundsException" ["java/lang/RuntimeException", "java/lang/Exception"]).filter goodWord
theorem inlX0 : ∀ w ∈ wsX00, w ∈ wsL_law := fun _ h => List.mem_append_left _ (List.mem_append_left _ (List.mem_append_left _ (List.mem_append_left _ (List.mem_append_left _ (List.mem_append_left _ (List.mem_append_left _ (List.mem_append_right _ h)))))))
theorem inlX1 : ∀ w ∈ wsX10, w ∈ wsL_law := fun _ h => List.mem_append_left _ (List.mem_append_left _ (List.mem_append_left _ (List.mem_append_left _ (List.mem_append_left _ (List.mem_append_left _ (List.mem_append_right _ h))))))
theorem inlX2 : ∀ w ∈ wsX20, w ∈ wsL_law := fun _ h => List.mem_append_left _ (List.mem_append_left _ (List.mem_append_left _ (List.mem_append_left _ (List.mem_append_left _ (List.mem_append_left _ (List.mem_append_left _ (List.mem_append_left _ (List.mem_append_right _ h))))))))
theorem inlX3 : ∀ w ∈ wsX30, w ∈ wsL_law := fun _ h => List.mem_append_left _ (List.mem_append_left _ (List.mem_append_left _ (List.mem_append_left _ (List.mem_append_right _ h))))
theorem inlX4 : ∀ w ∈ wsX40, w ∈ wsL_law := fun _ h => List.mem_append_left _ (List.mem_append_left _ (List.mem_append_left _ (List.mem_append_left _ (List.mem_append_left _ (List.mem_append_right _ h)))))
theorem inlX5 : ∀ w ∈ wsX50, w ∈ wsL_law := fun _ h => List.mem_append_left _ (List.mem_append_left _ (List.mem_append_left _ (List.mem_append_left _ (List.mem_append_left _ (List.mem_append_left _ (List.mem_append_left _ (List.mem_append_left _ (List.mem_append_left _ (List.mem_append_left _ (List.mem_append_right _ h))))))))))
theorem inlX6 : ∀ w ∈ wsX60, w ∈ wsL_law := fun _ h => List.mem_append_left _ (List.mem_append_left _ (List.mem_append_left _ (List.mem_append_left _ (List.mem_append_left _ (List.mem_append_left _ (List.mem_append_left _ (List.mem_append_left _ (List.mem_append_left _ (List.mem_append_right _ h)))))))))
theorem inJ9 : ∀ w ∈ wsJ90, w ∈ lw_tbl := by decide +kernel
theorem inJ0 : ∀ w ∈ wsJ00, w ∈ lw_tbl := by decide +kernel
abbrev vwCl : List vw_C := [(RX0, TX0, 3), (RX1, TX1, 8), (RX2, TX2, 2), (RX3, TX3, 7), (RX4, TX4, 4), (RX5, TX5, 7), (RX6, TX6, 24)]
end
section
/-! THE HEAP AS A FUNCTION OF ADDRESSES: a picture f says what lies at an address; a method is told what f is at its start, and says what f' is at its end. -/
abbrev zD : Type := va_G × (ClassId × ClassId × ClassId × ClassId × ClassId)
def zTy (D : zD) : List (ClassId × FieldType) := [(D.2.1, .int), (D.2.2.1, .object "UnionList$Copy"), (D.2.2.2.1, .object "UnionList$Request"), (D.2.2.2.2.1, .object "UnionList$Sent"), (D.2.2.2.2.2, .long)]
abbrev zF : Type := Nat → Option va_E
def zP (D : zD) (f : zF) (H : Heap) : Prop := ∀ q e, f q = some e → va_at D.1 vwCl (q, e) H
def zA (S0 : Nat) : Nat → Prop := fun q => S0 ≤ q
/-- what stands in the middle of a method: some picture of the heap, with Rep; nothing below S0 has changed since the method's start -/
def zW (D : zD) (S0 : Nat) (Rep : Nat → zF → Prop) (H0 H : Heap) (locs : List Loc) : Prop :=
  ∃ f, zP D f H ∧ (∀ q e, f q = some e → S0 ≤ q) ∧ va_S (zA S0) H0 H locs ∧ Rep H.size f
theorem zP.up {D : zD} {f : zF} {H H' : Heap} {a : Nat} {e : va_E} (hP : zP D f H) (h1 : va_at D.1 vwCl (a, e) H') (oq : ∀ q : Nat, q ≠ a → H'[q]? = H[q]?) : zP D (va_up f a (some e)) H' := by
  intro q x hx
  by_cases hq : q = a
  · subst hq
    rw [va_up_self] at hx
    cases hx
    exact h1
  · rw [va_up_ne _ _ hq] at hx
    exact (hP q x hx).kept (oq q hq)
theorem zd_up {S0 : Nat} {f : zF} {a : Nat} {e : va_E} (h : ∀ q e, f q = some e → S0 ≤ q) (ha : S0 ≤ a) : ∀ q x, va_up f a (some e) q = some x → S0 ≤ q := by
  intro q x hx
  by_cases hq : q = a
  · rw [hq]; exact ha
  · rw [va_up_ne _ _ hq] at hx
    exact h q x hx
theorem zW.mono {D : zD} {S0 : Nat} {Rep Rep' : Nat → zF → Prop} {H0 H : Heap} {locs : List Loc} (h : zW D S0 Rep H0 H locs) (hR : ∀ n f, Rep n f → Rep' n f) : zW D S0 Rep' H0 H locs := by
  obtain ⟨f, h1, h2, h3, h4⟩ := h
  exact ⟨f, h1, h2, h3, hR _ _ h4⟩
section ZR
variable {p : Program} {l : Launch} {e : Env} {R : Room} {s : State} {m : MethodId} {args : Array Value} {below : List Frame} {meth : Method} {c : Code} {H : Heap} {locs : List Loc} {cells slots : Nat} {Q : State → Prop}
variable {cc : ByteArray} {pc : Nat} {ls : Array Slot} {rest : List Value} {D : zD} {S0 : Nat} {Rep Rep' : Nat → zF → Prop} {a : Nat} {H0 : Heap}
theorem zw_get (hx : p.tables.exec = Jvm.exec) (hb : c.code = cc) {own ref C : String} {T : u_T} {N ci index : Nat} {Ts : List Cond} (hts : ∀ w ∈ Ts, w.before args s = true) (hin : ∀ w ∈ u_ws C T N, w ∈ Ts) (hown : s.vm.findClass own = some m.cls) (hK : va_K D.1 vwCl (zTy D) s) (hW : zW D S0 Rep H0 H locs) {fs : List Value} (he : ∀ n f, Rep n f → f a = some (.inr (ci, fs))) (hc : vwCl[ci]? = some (C, T, N)) (k : Nat) (hk : k < N) (hlink : (Cond.fieldLink own index ref (T k).2.1 (T k).2.2.1).before args s = true) (hsame : ∀ x, s.fieldFound? (T k).1 (T k).2.1 (T k).2.2.1 = some x → s.fieldFound? ref (T k).2.1 (T k).2.2.1 = some x) {v : Value} (hv : fs[k]? = some v) (hdg : decode cc pc = .ok (.getfield index, 3))
    (kk : W p l e R s m args below meth c H locs cells slots Q (F0 m (pc + 3) ls (v :: rest))) : W p l e R s m args below meth c H locs cells slots Q (F0 m pc ls (.ref a :: rest)) := by
  obtain ⟨f, hP, hd, hS, hR⟩ := hW
  have hf := he _ _ hR
  refine va_get (ws := [(a, .inr (ci, fs))]) hx hb hts hin hown hK (fun j q hq => ?_) 0 rfl hc k hk hlink hsame hv hdg kk
  have hj : j < 1 := (List.getElem?_eq_some_iff.mp hq).1
  rw [show j = 0 by omega] at hq
  cases hq
  exact hP a _ hf
theorem zw_put (hx : p.tables.exec = Jvm.exec) (hb : c.code = cc) {own ref C : String} {T : u_T} {N ci index : Nat} {Ts : List Cond} (hts : ∀ w ∈ Ts, w.before args s = true) (hin : ∀ w ∈ u_ws C T N, w ∈ Ts) (ty0 : Nat → FieldType) (hty : ∀ k, k < N → parseFieldDescriptor (T k).2.2.1 = some (ty0 k)) (hnm : ∀ a, a < N → ∀ b, b < N → a ≠ b → (T a).2.1 ≠ (T b).2.1) (hown : s.vm.findClass own = some m.cls) (hK : va_K D.1 vwCl (zTy D) s) (hW : zW D S0 Rep H0 H locs) {fs : List Value} (he : ∀ n f, Rep n f → f a = some (.inr (ci, fs))) (hc : vwCl[ci]? = some (C, T, N)) (k : Nat) (hk : k < N) (hlink : (Cond.fieldLink own index ref (T k).2.1 (T k).2.2.1).before args s = true) (hsame : ∀ x, s.fieldFound? (T k).1 (T k).2.1 (T k).2.2.1 = some x → s.fieldFound? ref (T k).2.1 (T k).2.2.1 = some x) (hfin : (T k).2.2.2 = false) {v : Value} (hn : narrow (ty0 k) v = v) (hfit : fits (ty0 k) v = true) (hl : k < fs.length)
    (hdg : decode cc pc = .ok (.putfield index, 3)) (hR' : ∀ n f, Rep n f → Rep' n (va_up f a (some (.inr (ci, fs.set k v)))))
    (kk : ∀ (H1 : Heap) (locs1 : List Loc), zW D S0 Rep' H0 H1 locs1 → W p l e R s m args below meth c H1 locs1 cells slots Q (F0 m (pc + 3) ls rest)) : W p l e R s m args below meth c H locs cells slots Q (F0 m pc ls (v :: .ref a :: rest)) := by
  have hap := va_apart (own := own) hts hin ty0 hty hnm hK hc
  obtain ⟨f, hP, hd, hS, hR⟩ := hW
  have hf := he _ _ hR
  obtain ⟨r, h1, cell, q1, q2, q3, q4⟩ := hP a _ hf
  have hr : r = (C, T, N) := Option.some.inj (h1.symm.trans hc)
  subst hr
  obtain ⟨hSl, hfc, kC, hkC, hkind⟩ := hK.1 ci _ hc
  obtain ⟨cf, kf, fi, fd, hi, hsl⟩ := hSl k hk
  have hlay := hts _ (hin _ (u_in_lay hk))
  unfold u_lay at hlay
  rw [if_neg (by rw [hfin]; decide)] at hlay
  have hst := (u_facts hfc hkC (u_lays hts hin hk) hi).1
  have h6 := u_store hfc hkC hkind hlay hi (hty k hk) hn hfit
  refine W.putK hx hb (f := fd) ⟨hown, hlink, ⟨_, _, _, hsame _ hi⟩, hst⟩ (by rw [q2]; exact h6) q1 q3 (by rw [hsl]; exact k2_hasslot (q4 k hk)) rfl rfl hdg fun H' e1 e2 e3 => ?_
  rw [hsl] at e1 ⊢
  refine kk H' _ ⟨_, hP.up ?_ e3, zd_up hd (hd _ _ hf), hS.put e2 e3 (hd _ _ hf), by rw [e2]; exact hR' _ _ hR⟩
  exact ⟨_, hc, t_OB.to (V := updV (vp_V fs) k v) ⟨_, e1, q2, q3, t_set q4 hap hk v⟩ (fun j _ => vp_updV_set hl v j)⟩
theorem zw_putF (hx : p.tables.exec = Jvm.exec) (hb : c.code = cc) {own ref C : String} {T : u_T} {N ci index : Nat} {Ts : List Cond} (hts : ∀ w ∈ Ts, w.before args s = true) (hin : ∀ w ∈ u_ws C T N, w ∈ Ts) (ty0 : Nat → FieldType) (hty : ∀ k, k < N → parseFieldDescriptor (T k).2.2.1 = some (ty0 k)) (hnm : ∀ a, a < N → ∀ b, b < N → a ≠ b → (T a).2.1 ≠ (T b).2.1) (hown : s.vm.findClass own = some m.cls) (hK : va_K D.1 vwCl (zTy D) s) (hW : zW D S0 Rep H0 H locs) {fs : List Value} (he : ∀ n f, Rep n f → f a = some (.inr (ci, fs))) (hc : vwCl[ci]? = some (C, T, N)) (k : Nat) (hk : k < N) (hlink : (Cond.fieldLink own index ref (T k).2.1 (T k).2.2.1).before args s = true) (hsame : ∀ x, s.fieldFound? (T k).1 (T k).2.1 (T k).2.2.1 = some x → s.fieldFound? ref (T k).2.1 (T k).2.2.1 = some x) (hfin : (T k).2.2.2 = true) (hin2 : meth.name = "<init>") (hdecl : (T k).1 = own) {v : Value} (hn : narrow (ty0 k) v = v) (hfit : fits (ty0 k) v = true) (hl : k < fs.length)
    (hdg : decode cc pc = .ok (.putfield index, 3)) (hR' : ∀ n f, Rep n f → Rep' n (va_up f a (some (.inr (ci, fs.set k v)))))
    (kk : ∀ (H1 : Heap) (locs1 : List Loc), zW D S0 Rep' H0 H1 locs1 → W p l e R s m args below meth c H1 locs1 cells slots Q (F0 m (pc + 3) ls rest)) : W p l e R s m args below meth c H locs cells slots Q (F0 m pc ls (v :: .ref a :: rest)) := by
  have hap := va_apart (own := own) hts hin ty0 hty hnm hK hc
  obtain ⟨f, hP, hd, hS, hR⟩ := hW
  have hf := he _ _ hR
  obtain ⟨r, h1, cell, q1, q2, q3, q4⟩ := hP a _ hf
  have hr : r = (C, T, N) := Option.some.inj (h1.symm.trans hc)
  subst hr
  obtain ⟨hSl, hfc, kC, hkC, hkind⟩ := hK.1 ci _ hc
  obtain ⟨cf, kf, fi, fd, hi, hsl⟩ := hSl k hk
  have hlay := hts _ (hin _ (u_in_lay hk))
  unfold u_lay at hlay
  rw [if_pos hfin] at hlay
  have hst := (u_facts hfc hkC (u_lays hts hin hk) hi).1
  have hcf : m.cls = cf := by
    obtain ⟨_, _, c', _, _, _, -, -, hf', -, -, -, hown2, -⟩ := Cond.laysFinal_spec hlay
    have e1 : c' = cf := by have := hi.symm.trans hf'; simp at this; exact this.1.symm
    rw [hdecl] at hown2
    rw [← e1]; exact Option.some.inj (hown.symm.trans hown2)
  have h6 := u_fits hfc hkC hkind (Or.inr hlay) hi (hty k hk) hn hfit
  refine W.putFinK hx hb hown hlink (hsame _ hi) hst hcf hin2 (by rw [q2]; exact h6) q1 q3 (by rw [hsl]; exact k2_hasslot (q4 k hk)) rfl rfl hdg fun H' e1 e2 e3 => ?_
  rw [hsl] at e1 ⊢
  refine kk H' _ ⟨_, hP.up ?_ e3, zd_up hd (hd _ _ hf), hS.put e2 e3 (hd _ _ hf), by rw [e2]; exact hR' _ _ hR⟩
  exact ⟨_, hc, t_OB.to (V := updV (vp_V fs) k v) ⟨_, e1, q2, q3, t_set q4 hap hk v⟩ (fun j _ => vp_updV_set hl v j)⟩
theorem zw_iald (hx : p.tables.exec = Jvm.exec) (hb : c.code = cc) (hK : va_K D.1 vwCl (zTy D) s) (hW : zW D S0 Rep H0 H locs) {n : Nat} {g : Nat → Int32} (he : ∀ k f, Rep k f → f a = some (.inl (D.2.1, n, .inl g))) {i : Int32} (hin : vp_in i n) (hdg : decode cc pc = .ok (.iaload, 1))
    (kk : W p l e R s m args below meth c H locs cells slots Q (F0 m (pc + 1) ls (.int (g i.toNatClampNeg) :: rest))) : W p l e R s m args below meth c H locs cells slots Q (F0 m pc ls (.int i :: .ref a :: rest)) := by
  obtain ⟨f, hP, hd, hS, hR⟩ := hW
  have hf := he _ _ hR
  refine va_iald (ws := [(a, .inl (D.2.1, n, .inl g))]) hx hb hK (fun j q hq => ?_) 0 0 rfl rfl hin hdg kk
  have hj : j < 1 := (List.getElem?_eq_some_iff.mp hq).1
  rw [show j = 0 by omega] at hq
  cases hq
  exact hP a _ hf
theorem zw_lald (hx : p.tables.exec = Jvm.exec) (hb : c.code = cc) (hK : va_K D.1 vwCl (zTy D) s) (hW : zW D S0 Rep H0 H locs) {n : Nat} {g : Nat → Int64} (he : ∀ k f, Rep k f → f a = some (.inl (D.2.2.2.2.2, n, .inr (.inl g)))) {i : Int32} (hin : vp_in i n) (hdg : decode cc pc = .ok (.laload, 1))
    (kk : W p l e R s m args below meth c H locs cells slots Q (F0 m (pc + 1) ls (.long (g i.toNatClampNeg) :: rest))) : W p l e R s m args below meth c H locs cells slots Q (F0 m pc ls (.int i :: .ref a :: rest)) := by
  obtain ⟨f, hP, hd, hS, hR⟩ := hW
  have hf := he _ _ hR
  refine va_lald (ws := [(a, .inl (D.2.2.2.2.2, n, .inr (.inl g)))]) hx hb hK (fun j q hq => ?_) 0 4 rfl rfl hin hdg kk
  have hj : j < 1 := (List.getElem?_eq_some_iff.mp hq).1
  rw [show j = 0 by omega] at hq
  cases hq
  exact hP a _ hf
theorem zw_aldq (hx : p.tables.exec = Jvm.exec) (hb : c.code = cc) (hK : va_K D.1 vwCl (zTy D) s) (hW : zW D S0 Rep H0 H locs) (t0 : Nat) {cA : ClassId} {C : String} (ht : (zTy D)[t0]? = some (cA, .object C)) {n : Nat} {g : Nat → Option Nat} (he : ∀ k f, Rep k f → f a = some (.inl (cA, n, .inr (.inr (.inr (.inr g)))))) {i : Int32} (hin : vp_in i n) (hdg : decode cc pc = .ok (.aaload, 1))
    (kk : W p l e R s m args below meth c H locs cells slots Q (F0 m (pc + 1) ls (va_rf (g i.toNatClampNeg) :: rest))) : W p l e R s m args below meth c H locs cells slots Q (F0 m pc ls (.int i :: .ref a :: rest)) := by
  obtain ⟨f, hP, hd, hS, hR⟩ := hW
  have hf := he _ _ hR
  refine va_aldq (ws := [(a, .inl (cA, n, .inr (.inr (.inr (.inr g)))))]) hx hb hK (fun j q hq => ?_) 0 t0 rfl ht hin hdg kk
  have hj : j < 1 := (List.getElem?_eq_some_iff.mp hq).1
  rw [show j = 0 by omega] at hq
  cases hq
  exact hP a _ hf
theorem zw_alen (hx : p.tables.exec = Jvm.exec) (hb : c.code = cc) (hK : va_K D.1 vwCl (zTy D) s) (hW : zW D S0 Rep H0 H locs) (t0 : Nat) {cA : ClassId} {ty : FieldType} (ht : (zTy D)[t0]? = some (cA, ty)) {x : vp_A} (he : ∀ k f, Rep k f → f a = some (.inl (cA, x))) {v : Int32} (hv : Int32.ofNat x.1 = v) (hdg : decode cc pc = .ok (.arraylength, 1))
    (kk : W p l e R s m args below meth c H locs cells slots Q (F0 m (pc + 1) ls (.int v :: rest))) : W p l e R s m args below meth c H locs cells slots Q (F0 m pc ls (.ref a :: rest)) := by
  obtain ⟨f, hP, hd, hS, hR⟩ := hW
  have hf := he _ _ hR
  refine va_alen (ws := [(a, .inl (cA, x))]) hx hb hK (fun j q hq => ?_) 0 t0 rfl ht hv hdg kk
  have hj : j < 1 := (List.getElem?_eq_some_iff.mp hq).1
  rw [show j = 0 by omega] at hq
  cases hq
  exact hP a _ hf
theorem zw_iast (hx : p.tables.exec = Jvm.exec) (hb : c.code = cc) (hK : va_K D.1 vwCl (zTy D) s) (hW : zW D S0 Rep H0 H locs) {n : Nat} {g : Nat → Int32} (he : ∀ k f, Rep k f → f a = some (.inl (D.2.1, n, .inl g))) {i x : Int32} (hin : vp_in i n) (hdg : decode cc pc = .ok (.iastore, 1))
    (hR' : ∀ k f, Rep k f → Rep' k (va_up f a (some (.inl (D.2.1, n, .inl (upd g i.toNatClampNeg x))))))
    (kk : ∀ (H1 : Heap) (locs1 : List Loc), zW D S0 Rep' H0 H1 locs1 → W p l e R s m args below meth c H1 locs1 cells slots Q (F0 m (pc + 1) ls rest)) : W p l e R s m args below meth c H locs cells slots Q (F0 m pc ls (.int x :: .int i :: .ref a :: rest)) := by
  obtain ⟨f, hP, hd, hS, hR⟩ := hW
  have hf := he _ _ hR
  refine W.iast hx hb (hP a _ hf) ((hK.2 0 _ rfl).1 n (fun j => .int (g j))) (fun q => by cases q) (by show ¬ (i < 0 ∨ (arrV _ _ _).slots.size ≤ _); rw [arrV_size]; exact hin) rfl rfl hdg fun H1 e z oq => ?_
  refine kk H1 _ ⟨_, hP.up ?_ oq, zd_up hd (hd _ _ hf), hS.put z oq (hd _ _ hf), by rw [z]; exact hR' _ _ hR⟩
  show H1[a]? = some (vp_cell _ _)
  rw [e]
  rw [vp_cell_i, vp_cell_i, arrV_store]
  congr 2
  funext q
  by_cases hq : q = i.toNatClampNeg
  · subst hq
    simp [updV, upd]
  · simp [updV, upd, hq]
theorem zw_last (hx : p.tables.exec = Jvm.exec) (hb : c.code = cc) (hK : va_K D.1 vwCl (zTy D) s) (hW : zW D S0 Rep H0 H locs) {n : Nat} {g : Nat → Int64} (he : ∀ k f, Rep k f → f a = some (.inl (D.2.2.2.2.2, n, .inr (.inl g)))) {i : Int32} {x : Int64} (hin : vp_in i n) (hdg : decode cc pc = .ok (.lastore, 1))
    (hR' : ∀ k f, Rep k f → Rep' k (va_up f a (some (.inl (D.2.2.2.2.2, n, .inr (.inl (vp_updL g i.toNatClampNeg x)))))))
    (kk : ∀ (H1 : Heap) (locs1 : List Loc), zW D S0 Rep' H0 H1 locs1 → W p l e R s m args below meth c H1 locs1 cells slots Q (F0 m (pc + 1) ls rest)) : W p l e R s m args below meth c H locs cells slots Q (F0 m pc ls (.long x :: .int i :: .ref a :: rest)) := by
  obtain ⟨f, hP, hd, hS, hR⟩ := hW
  have hf := he _ _ hR
  refine W.last hx hb (hP a _ hf) ((hK.2 4 _ rfl).1 n (fun j => .long (g j))) (fun q => by cases q) (by show ¬ (i < 0 ∨ (arrV _ _ _).slots.size ≤ _); rw [arrV_size]; exact hin) rfl rfl hdg fun H1 e z oq => ?_
  refine kk H1 _ ⟨_, hP.up ?_ oq, zd_up hd (hd _ _ hf), hS.put z oq (hd _ _ hf), by rw [z]; exact hR' _ _ hR⟩
  show H1[a]? = some (vp_cell _ _)
  rw [e]
  rw [vp_cell_l, vp_cell_l, arrV_store]
  congr 2
  funext q
  by_cases hq : q = i.toNatClampNeg
  · subst hq
    simp [updV, vp_updL]
  · simp [updV, vp_updL, hq]
theorem zw_astq (hx : p.tables.exec = Jvm.exec) (hb : c.code = cc) (hK : va_K D.1 vwCl (zTy D) s) (hW : zW D S0 Rep H0 H locs) (t0 : Nat) {cA : ClassId} {r : vw_C} (ht : (zTy D)[t0]? = some (cA, .object r.1)) {n v ci : Nat} {vs : List Value} {g : Nat → Option Nat} (he : ∀ k f, Rep k f → f a = some (.inl (cA, n, .inr (.inr (.inr (.inr g)))))) (hv : ∀ k f, Rep k f → f v = some (.inr (ci, vs))) (hc : vwCl[ci]? = some r) {i : Int32} (hin : vp_in i n) (hdg : decode cc pc = .ok (.aastore, 1))
    (hR' : ∀ k f, Rep k f → Rep' k (va_up f a (some (.inl (cA, n, .inr (.inr (.inr (.inr (va_up g i.toNatClampNeg (some v))))))))))
    (kk : ∀ (H1 : Heap) (locs1 : List Loc), zW D S0 Rep' H0 H1 locs1 → W p l e R s m args below meth c H1 locs1 cells slots Q (F0 m (pc + 1) ls rest)) : W p l e R s m args below meth c H locs cells slots Q (F0 m pc ls (.ref v :: .int i :: .ref a :: rest)) := by
  obtain ⟨f, hP, hd, hS, hR⟩ := hW
  have hf := he _ _ hR
  have hlt : i.toNatClampNeg < n := Nat.not_le.mp fun q => hin (Or.inr q)
  have h0 : ¬ i < 0 := fun q => hin (Or.inl q)
  obtain ⟨r', hr', cellV, g1, g2, g3, -⟩ := hP v _ (hv _ _ hR)
  have hcls := (hK.1 ci r hc).2
  obtain ⟨kA, comp, k1, k2, k3, -⟩ := (hK.2 t0 _ ht).2
  have hcomp : comp = D.1.1 ci := Option.some.inj (k3.symm.trans hcls.1)
  subst hcomp
  obtain ⟨kC, hkC, -⟩ := hcls.2
  refine W.aast hx hb (hP a _ hf) (fun q h => by cases h) (fun h => by cases h) k1 k2 rfl hkC ⟨h0, by show _ < (arrV _ _ _).slots.size; rw [arrV_size]; exact hlt⟩ g1 (fun q h => by rw [g3] at h; cases h) (by rw [g2]; exact hkC) (by rw [g2]; exact va_assign hcls) rfl rfl hdg fun H1 e z oq => ?_
  refine kk H1 _ ⟨_, hP.up ?_ oq, zd_up hd (hd _ _ hf), hS.put z oq (hd _ _ hf), by rw [z]; exact hR' _ _ hR⟩
  show H1[a]? = some (vp_cell _ _)
  rw [e]
  rw [vp_cell_q, vp_cell_q, arrV_store]
  congr 2
  funext q
  by_cases hq : q = i.toNatClampNeg
  · subst hq
    simp [updV, va_up, va_rf]
  · simp [updV, va_up, hq]
theorem zw_astqN (hx : p.tables.exec = Jvm.exec) (hb : c.code = cc) (hK : va_K D.1 vwCl (zTy D) s) (hW : zW D S0 Rep H0 H locs) (t0 : Nat) {cA : ClassId} {C : String} (ht : (zTy D)[t0]? = some (cA, .object C)) {n : Nat} {g : Nat → Option Nat} (he : ∀ k f, Rep k f → f a = some (.inl (cA, n, .inr (.inr (.inr (.inr g)))))) {i : Int32} (hin : vp_in i n) (hdg : decode cc pc = .ok (.aastore, 1))
    (hR' : ∀ k f, Rep k f → Rep' k (va_up f a (some (.inl (cA, n, .inr (.inr (.inr (.inr (va_up g i.toNatClampNeg none)))))))))
    (kk : ∀ (H1 : Heap) (locs1 : List Loc), zW D S0 Rep' H0 H1 locs1 → W p l e R s m args below meth c H1 locs1 cells slots Q (F0 m (pc + 1) ls rest)) : W p l e R s m args below meth c H locs cells slots Q (F0 m pc ls (.null :: .int i :: .ref a :: rest)) := by
  obtain ⟨f, hP, hd, hS, hR⟩ := hW
  have hf := he _ _ hR
  refine va_WaastN (C := C) hx hb (hP a _ hf) ((hK.2 t0 _ ht).1 n (fun j => va_rf (g j))) (fun h => by cases h) (by show ¬ (i < 0 ∨ (arrV _ _ _).slots.size ≤ _); rw [arrV_size]; exact hin) rfl rfl hdg fun H1 e z oq => ?_
  refine kk H1 _ ⟨_, hP.up ?_ oq, zd_up hd (hd _ _ hf), hS.put z oq (hd _ _ hf), by rw [z]; exact hR' _ _ hR⟩
  show H1[a]? = some (vp_cell _ _)
  rw [e]
  rw [vp_cell_q, vp_cell_q, arrV_store]
  congr 2
  funext q
  by_cases hq : q = i.toNatClampNeg
  · subst hq
    simp [updV, va_up, va_rf]
  · simp [updV, va_up, hq]
/-- a new cell lies at the heap's end, where the picture says nothing -/
theorem zP.none {D : zD} {f : zF} {H : Heap} (hP : zP D f H) : f H.size = none := by
  cases hf : f H.size with
  | none => rfl
  | some e =>
    have h : H.size < H.size := (hP _ _ hf).lt
    omega
theorem zP.new {D : zD} {f : zF} {H H' : Heap} {e : va_E} (hP : zP D f H) (h1 : va_at D.1 vwCl (H.size, e) H') (oq : ∀ q : Nat, q < H.size → H'[q]? = H[q]?) : zP D (va_up f H.size (some e)) H' := by
  intro q x hx
  by_cases hq : q = H.size
  · subst hq
    rw [va_up_self] at hx
    cases hx
    exact h1
  · rw [va_up_ne _ _ hq] at hx
    exact (hP q x hx).kept (oq q (hP q x hx).lt)
theorem zS.new {S0 : Nat} {H H' : Heap} (hS : va_S (zA S0) H0 H locs) (z1 : H'.size = H.size + 1) (o1 : ∀ q, q < H.size → H'[q]? = H[q]?) : va_S (zA S0) H0 H' locs :=
  ⟨Nat.le_trans hS.1 (by omega), fun x h1 h2 => (o1 x (Nat.lt_of_lt_of_le h1 hS.1)).trans (hS.2.1 x h1 h2), hS.2.2⟩
theorem zw_new (hx : p.tables.exec = Jvm.exec) (hb : c.code = cc) {own C : String} {T : u_T} {N ci index : Nat} {Ts : List Cond} (hts : ∀ w ∈ Ts, w.before args s = true) (hin : ∀ w ∈ u_ws C T N, w ∈ Ts) (ty : Nat → FieldType) (hty : ∀ k, k < N → parseFieldDescriptor (T k).2.2.1 = some (ty k)) (hown : s.vm.findClass own = some m.cls) (hcl : (Cond.classLink own index C).before args s = true) (hinst : (Cond.instantiable C N).before args s = true) (hini : (Cond.initialized C).before args s = true)
    (hK : va_K D.1 vwCl (zTy D) s) (hW : zW D S0 Rep H0 H locs) (hS0 : S0 ≤ H0.size) (hc : vwCl[ci]? = some (C, T, N)) {fs : List Value} (hfs : ∀ j, j < N → defaultValue (ty j) = vp_V fs j) (hcells : cells + 1 ≤ R.cells) (hslots : slots + N ≤ R.slots) (hdg : decode cc pc = .ok (.new index, 3))
    (kk : ∀ (q : Nat) (H1 : Heap), zW D S0 (fun n f' => ∃ f, Rep q f ∧ f q = none ∧ n = q + 1 ∧ f' = va_up f q (some (.inr (ci, fs)))) H0 H1 locs → H0.size ≤ q → W p l e R s m args below meth c H1 locs (cells + 1) (slots + N) Q (F0 m (pc + 3) ls (.ref q :: rest))) : W p l e R s m args below meth c H locs cells slots Q (F0 m pc ls rest) := by
  obtain ⟨f, hP, hd, hS, hR⟩ := hW
  have hKn := hK.1 ci _ hc
  refine W.newcK hx hb hown hcl hinst hini rfl hdg hcells hslots hKn.2.1 rfl fun H1 kC hkC e1 z1 o1 => ?_
  refine kk H.size H1 ⟨_, hP.new (e := .inr (ci, fs)) ?_ o1, zd_up hd (Nat.le_trans hS0 hS.1), zS.new hS z1 o1, f, hR, hP.none, z1, rfl⟩ hS.1
  exact ⟨_, hc, (u_born ty hts hin hKn hkC e1 hty).to hfs⟩
theorem zw_newi (hx : p.tables.exec = Jvm.exec) (hb : c.code = cc) (harr : (Cond.arrayClass (newarray.typeOf .int)).before args s = true)
    (hK : va_K D.1 vwCl (zTy D) s) (hW : zW D S0 Rep H0 H locs) (hS0 : S0 ≤ H0.size) {n : Int32} {N' : Nat} (hn : ¬ n < 0) (hN : n.toNatClampNeg = N') (hbytes : N' * componentBytes .int ≤ 536870912) (hcells : cells + 1 ≤ R.cells) (hslots : slots + N' ≤ R.slots) (hdg : decode cc pc = .ok (.newarray .int, 2))
    (kk : ∀ (q : Nat) (H1 : Heap), zW D S0 (fun k f' => ∃ f, Rep q f ∧ f q = none ∧ k = q + 1 ∧ f' = va_up f q (some (.inl (D.2.1, N', .inl (fun _ => 0))))) H0 H1 locs → H0.size ≤ q → W p l e R s m args below meth c H1 locs (cells + 1) (slots + N') Q (F0 m (pc + 2) ls (.ref q :: rest))) : W p l e R s m args below meth c H locs cells slots Q (F0 m pc ls (.int n :: rest)) := by
  obtain ⟨f, hP, hd, hS, hR⟩ := hW
  refine va_newaK hx hb harr rfl hdg rfl hn hN hbytes hcells hslots rfl fun H1 cA e1 z1 o1 hAr hNm => ?_
  have hcA : cA = D.2.1 := Option.some.inj (hNm.symm.trans ((hK.2 0 _ rfl).2 : s.vm.findClass ("[" ++ (FieldType.int).toString) = some D.2.1))
  subst hcA
  exact kk H.size H1 ⟨_, hP.new (e := .inl (D.2.1, N', .inl (fun _ => 0))) e1 o1, zd_up hd (Nat.le_trans hS0 hS.1), zS.new hS z1 o1, f, hR, hP.none, z1, rfl⟩ hS.1
theorem zw_newl (hx : p.tables.exec = Jvm.exec) (hb : c.code = cc) (harr : (Cond.arrayClass (newarray.typeOf .long)).before args s = true)
    (hK : va_K D.1 vwCl (zTy D) s) (hW : zW D S0 Rep H0 H locs) (hS0 : S0 ≤ H0.size) {n : Int32} {N' : Nat} (hn : ¬ n < 0) (hN : n.toNatClampNeg = N') (hbytes : N' * componentBytes .long ≤ 536870912) (hcells : cells + 1 ≤ R.cells) (hslots : slots + N' ≤ R.slots) (hdg : decode cc pc = .ok (.newarray .long, 2))
    (kk : ∀ (q : Nat) (H1 : Heap), zW D S0 (fun k f' => ∃ f, Rep q f ∧ f q = none ∧ k = q + 1 ∧ f' = va_up f q (some (.inl (D.2.2.2.2.2, N', .inr (.inl (fun _ => 0)))))) H0 H1 locs → H0.size ≤ q → W p l e R s m args below meth c H1 locs (cells + 1) (slots + N') Q (F0 m (pc + 2) ls (.ref q :: rest))) : W p l e R s m args below meth c H locs cells slots Q (F0 m pc ls (.int n :: rest)) := by
  obtain ⟨f, hP, hd, hS, hR⟩ := hW
  refine va_newaK hx hb harr rfl hdg rfl hn hN hbytes hcells hslots rfl fun H1 cA e1 z1 o1 hAr hNm => ?_
  have hcA : cA = D.2.2.2.2.2 := Option.some.inj (hNm.symm.trans ((hK.2 4 _ rfl).2 : s.vm.findClass ("[" ++ (FieldType.long).toString) = some D.2.2.2.2.2))
  subst hcA
  exact kk H.size H1 ⟨_, hP.new (e := .inl (D.2.2.2.2.2, N', .inr (.inl (fun _ => 0)))) e1 o1, zd_up hd (Nat.le_trans hS0 hS.1), zS.new hS z1 o1, f, hR, hP.none, z1, rfl⟩ hS.1
theorem zw_newq (hx : p.tables.exec = Jvm.exec) (hb : c.code = cc) {own C : String} {index : Nat} (hown : s.vm.findClass own = some m.cls) (hclink : (Cond.classLink own index C).before args s = true) (hover : (Cond.arrayOver (.object C)).before args s = true)
    (hK : va_K D.1 vwCl (zTy D) s) (hW : zW D S0 Rep H0 H locs) (hS0 : S0 ≤ H0.size) (t0 : Nat) {cA : ClassId} (ht : (zTy D)[t0]? = some (cA, .object C)) {n : Int32} {N' : Nat} (hn : ¬ n < 0) (hN : n.toNatClampNeg = N') (hbytes : N' * 4 ≤ 536870912) (hcells : cells + 1 ≤ R.cells) (hslots : slots + N' ≤ R.slots) (hdg : decode cc pc = .ok (.anewarray index, 3))
    (kk : ∀ (q : Nat) (H1 : Heap), zW D S0 (fun k f' => ∃ f, Rep q f ∧ f q = none ∧ k = q + 1 ∧ f' = va_up f q (some (.inl (cA, N', .inr (.inr (.inr (.inr (fun _ => none)))))))) H0 H1 locs → H0.size ≤ q → W p l e R s m args below meth c H1 locs (cells + 1) (slots + N') Q (F0 m (pc + 3) ls (.ref q :: rest))) : W p l e R s m args below meth c H locs cells slots Q (F0 m pc ls (.int n :: rest)) := by
  obtain ⟨f, hP, hd, hS, hR⟩ := hW
  subst hN
  refine W.anew hx hb hown hclink hover rfl hdg rfl hn hbytes hcells hslots fun cA' kA comp f1 f2 f3 f4 => ?_
  obtain ⟨kA2, comp2, k1, k2, k3, k4⟩ := (hK.2 t0 _ ht).2
  have hcA : cA' = cA := Option.some.inj (f1.symm.trans k4)
  subst hcA
  generalize hH1 : H.push ({ cls := cA', slots := Array.replicate n.toNatClampNeg .null, vm := .none } : Cell) = H1
  have z1 : H1.size = H.size + 1 := by rw [← hH1, Array.size_push]
  have e1 : H1[H.size]? = some (arrV cA' n.toNatClampNeg (fun _ => .null)) := by rw [← hH1, Array.getElem?_push_size, ← arrV_new]
  have o1 : ∀ q : Nat, q < H.size → H1[q]? = H[q]? := fun q hq => by rw [← hH1, Array.getElem?_push, if_neg (Nat.ne_of_lt hq)]
  exact kk H.size H1 ⟨_, hP.new (e := .inl (cA', n.toNatClampNeg, .inr (.inr (.inr (.inr (fun _ => none)))))) e1 o1, zd_up hd (Nat.le_trans hS0 hS.1), zS.new hS z1 o1, f, hR, hP.none, z1, rfl⟩ hS.1
end ZR
end
section
/-! CALLS over the heap as a function: a method's start and end, the environment that every method needs -/
def zStr : List (Nat × String) := [(56, "home or title is out of range"), (63, "there are 20 copies"), (195, "there is no such copy"), (93, "it was harmed and was not mended since"), (102, "it is on its way"), (114, "it is not at home, or no harm is known"), (116, "house or title is out of range"), (118, "40 requests were made"), (198, "there is no such request"), (141, "it is no loan"), (163, "it is no loan, or a recall of it was sent"), (173, "days is out of range"), (179, "house or other is out of range"), (187, "house is out of range")]
def zE (D : zD) (S0 : Nat) (U : State) : Prop := va_K D.1 vwCl (zTy D) U ∧ va_Nw (.methodLinkNest RX0 21 yX5_isHouse "UnionList") U ∧ vx_Zq Bundle.tN "UNASSIGNED_STACK" Bundle.steD (zA S0) U U.heap ∧ vx_Zq Bundle.tN "SUPPRESSED_SENTINEL" Bundle.listD (zA S0) U U.heap ∧ ∀ kt ∈ zStr, ∃ a, vk_R RX5 kt.1 kt.2 a U
theorem zE.moved {D : zD} {S0 : Nat} {s U : State} {H : Heap} {locs : List Loc} (h : zE D S0 s) (hS : va_S (zA S0) s.heap H locs) (hU : U.heap = H) (hW : s.WarmedH U.vm) : zE D S0 U := by
  obtain ⟨h1, h2, h3, h4, h5⟩ := h
  refine ⟨va_K.moved hW.alike h1, va_Nw.warmM hW h2, ?_, ?_, fun kt hk => ?_⟩
  · rw [hU]; exact vx_Zq.moved hW.alike (h3.kept hS.2.1)
  · rw [hU]; exact vx_Zq.moved hW.alike (h4.kept hS.2.1)
  · obtain ⟨a, ha⟩ := h5 kt hk
    exact ⟨a, vk_R.warm hW ha⟩
theorem zE.same {D : zD} {S0 : Nat} {u U : State} (hv : U.vm = u.vm) (hh : U.heap = u.heap) (h : zE D S0 u) : zE D S0 U := by
  obtain ⟨h1, h2, h3, h4, h5⟩ := h
  have hal : u.vm.Alike U.vm := by rw [hv]; exact Vm.Alike.refl _
  refine ⟨va_K.moved hal h1, va_Nw.same rfl hv.symm h2, ?_, ?_, fun kt hk => ?_⟩
  · rw [hh]; exact vx_Zq.moved hal h3
  · rw [hh]; exact vx_Zq.moved hal h4
  · obtain ⟨a, ha⟩ := h5 kt hk
    exact ⟨a, vk_R.same hv ha⟩
def zB {S : Type} (D : zD) (S0 : Nat) (Rep : S → Nat → zF → Prop) (u : S) (t : State) : Prop := ∃ f, zP D f t.heap ∧ (∀ q e, f q = some e → S0 ≤ q) ∧ Rep u t.heap.size f
def zPc (D : zD) (S0 : Nat) (Rep : Nat → zF → Prop) (av : List Value) : Array Value → State → Prop := va_Pc av (fun U => S0 ≤ U.heap.size ∧ zE D S0 U ∧ ∃ f, zP D f U.heap ∧ (∀ q e, f q = some e → S0 ≤ q) ∧ Rep U.heap.size f)
theorem zPc_blind {D : zD} {S0 : Nat} {Rep : Nat → zF → Prop} {av : List Value} : FrameBlind (zPc D S0 Rep av) := by
  intro a U g mk h
  obtain ⟨h0, h1, h2, h3⟩ := h
  exact ⟨h0, h1, zE.same rfl rfl h2, h3⟩
/-- where a callee has thrown: the exception's class and the world -/
def zX {S : Type} (D : zD) (S0 : Nat) (Rep : S → Nat → zF → Prop) (QX : String → S → Prop) : String → State → State → Prop := vx_X (S := S) (fun _ => True) (fun E u t => QX E u ∧ zB D S0 Rep u t) (zA S0)
section ZC
variable {p : Program} {l : Launch} {e : Env} {R : Room} {s : State} {m : MethodId} {args : Array Value} {below : List Frame} {meth : Method} {c : Code} {H : Heap} {locs : List Loc} {cells slots : Nat} {Q : State → Prop}
variable {cc : ByteArray} {pc : Nat} {ls : Array Slot} {rest st0 : List Value} {D : zD} {S0 : Nat} {Rep : Nat → zF → Prop} {a : Array Value} {H0 : Heap} {mc ms : Nat}
theorem zpreS {As : List Value} (hE : zE D S0 s) (hs : S0 ≤ s.heap.size) (hW : zW D S0 Rep s.heap H locs) : PreS s H (zPc D S0 Rep As) As := by
  obtain ⟨f, hP, hd, hS, hR⟩ := hW
  refine ⟨zPc_blind, fun U hU hWm => ⟨rfl, ?_, hE.moved hS hU hWm, f, by rw [hU]; exact hP, hd, by rw [hU]; exact hR⟩⟩
  rw [hU]
  exact Nat.le_trans hs hS.1
theorem zpreV {As : List Value} {b ci : Nat} {fs : List Value} {q : vw_C} (hE : zE D S0 s) (hs : S0 ≤ s.heap.size) (hW : zW D S0 Rep s.heap H locs) (he : ∀ n f, Rep n f → f b = some (.inr (ci, fs))) (hc : vwCl[ci]? = some q) : PreV s H q.1 b (zPc D S0 Rep (.ref b :: As)) As := by
  refine ⟨zPc_blind, ?_, (zpreS (As := .ref b :: As) hE hs hW).2⟩
  obtain ⟨f, hP, hd, hS, hR⟩ := hW
  obtain ⟨r, h1, cell, q1, q2, q3, q4⟩ := hP b _ (he _ _ hR)
  have hr : r = q := Option.some.inj (h1.symm.trans hc)
  subst hr
  exact ⟨cell, q1, by rw [q3]; rfl, by rw [q2]; exact (hE.1.1 ci _ hc).2.1⟩
theorem zc_i {S : Type} {RepS : S → Nat → zF → Prop} {post : Int32 → S → Prop} (hr : va_Run p l e R s m args below meth c H locs cells slots mc ms (F0 m pc ls st0) rest (va_Qi post (zB D S0 RepS) (zA S0) a) (zA S0)) (hW : zW D S0 Rep H0 H locs)
    (kk : ∀ (r : Int32) (u : S) (H1 : Heap) (locs1 : List Loc), post r u → zW D S0 (RepS u) H0 H1 locs1 → W p l e R s m args below meth c H1 locs1 (cells + mc) (slots + ms) Q (F0 m (pc + 3) ls (.int r :: rest))) : W p l e R s m args below meth c H locs cells slots Q (F0 m pc ls st0) := by
  obtain ⟨f, hP, hd, hS, hR⟩ := hW
  refine va_calli hr hS (fun _ _ h => h) (fun _ h => h) (fun r u t H1 locs1 ht _ hp hB _ _ hS1 => ?_)
  obtain ⟨f1, h1, h2, h3⟩ := hB
  rw [ht] at h1 h3
  exact kk r u H1 locs1 hp ⟨f1, h1, h2, hS1, h3⟩
theorem zc_v {S : Type} {RepS : S → Nat → zF → Prop} {post : S → Prop} (hr : va_Run p l e R s m args below meth c H locs cells slots mc ms (F0 m pc ls st0) rest (va_Qv post (zB D S0 RepS) (zA S0) a) (zA S0)) (hW : zW D S0 Rep H0 H locs)
    (kk : ∀ (u : S) (H1 : Heap) (locs1 : List Loc), post u → zW D S0 (RepS u) H0 H1 locs1 → W p l e R s m args below meth c H1 locs1 (cells + mc) (slots + ms) Q (F0 m (pc + 3) ls rest)) : W p l e R s m args below meth c H locs cells slots Q (F0 m pc ls st0) := by
  obtain ⟨f, hP, hd, hS, hR⟩ := hW
  refine va_callv hr hS (fun _ _ h => h) (fun _ h => h) (fun u t H1 locs1 ht _ hp hB _ _ hS1 => ?_)
  obtain ⟨f1, h1, h2, h3⟩ := hB
  rw [ht] at h1 h3
  exact kk u H1 locs1 hp ⟨f1, h1, h2, hS1, h3⟩
theorem zc_q {S : Type} {RepS : S → Nat → zF → Prop} {post : Option Nat → S → Prop} (hr : va_Run p l e R s m args below meth c H locs cells slots mc ms (F0 m pc ls st0) rest (va_Qq post (zB D S0 RepS) (zA S0) a) (zA S0)) (hW : zW D S0 Rep H0 H locs)
    (kk : ∀ (r : Option Nat) (u : S) (H1 : Heap) (locs1 : List Loc), post r u → zW D S0 (RepS u) H0 H1 locs1 → W p l e R s m args below meth c H1 locs1 (cells + mc) (slots + ms) Q (F0 m (pc + 3) ls (va_rf r :: rest))) : W p l e R s m args below meth c H locs cells slots Q (F0 m pc ls st0) := by
  obtain ⟨f, hP, hd, hS, hR⟩ := hW
  refine va_callq hr hS (fun _ _ h => h) (fun _ h => h) (fun r u t H1 locs1 ht _ hp hB _ _ hS1 => ?_)
  obtain ⟨f1, h1, h2, h3⟩ := hB
  rw [ht] at h1 h3
  exact kk r u H1 locs1 hp ⟨f1, h1, h2, hS1, h3⟩
theorem zxc_i {S : Type} {RepS : S → Nat → zF → Prop} {post : Int32 → S → Prop} {QX : String → S → Prop} (hr : vx_Run p l e R s m args below meth c H locs cells slots mc ms (F0 m pc ls st0) rest (va_Qi post (zB D S0 RepS) (zA S0) a) (zX D S0 RepS QX) (zA S0)) (hW : zW D S0 Rep H0 H locs)
    (kx : ∀ (E : String) (ce : Cell) (q9 : Addr) (u : S) (H1 : Heap) (locs1 : List Loc), QX E u → zW D S0 (RepS u) H0 H1 locs1 → H1[q9]? = some ce → ce.vm = .none → s.vm.findClass E = some ce.cls → vx_W p l e R s m args below meth c H1 locs1 (cells + mc) (slots + ms) Q (F0 m pc ls rest) q9)
    (kk : ∀ (r : Int32) (u : S) (H1 : Heap) (locs1 : List Loc), post r u → zW D S0 (RepS u) H0 H1 locs1 → W p l e R s m args below meth c H1 locs1 (cells + mc) (slots + ms) Q (F0 m (pc + 3) ls (.int r :: rest))) : W p l e R s m args below meth c H locs cells slots Q (F0 m pc ls st0) := by
  obtain ⟨f, hP, hd, hS, hR⟩ := hW
  refine vx_calli hr hS (fun _ _ h => h) (fun _ h => h) (fun _ _ h => h) (fun E ce q9 u t H1 locs1 ht _ _ hB _ _ hS1 h1 h2 h3 => ?_) (fun r u t H1 locs1 ht _ hp hB _ _ hS1 => ?_)
  · obtain ⟨hq, f1, g1, g2, g3⟩ := hB
    rw [ht] at g1 g3
    exact kx E ce q9 u H1 locs1 hq ⟨f1, g1, g2, hS1, g3⟩ h1 h2 h3
  · obtain ⟨f1, h1, h2, h3⟩ := hB
    rw [ht] at h1 h3
    exact kk r u H1 locs1 hp ⟨f1, h1, h2, hS1, h3⟩
theorem zxc_v {S : Type} {RepS : S → Nat → zF → Prop} {post : S → Prop} {QX : String → S → Prop} (hr : vx_Run p l e R s m args below meth c H locs cells slots mc ms (F0 m pc ls st0) rest (va_Qv post (zB D S0 RepS) (zA S0) a) (zX D S0 RepS QX) (zA S0)) (hW : zW D S0 Rep H0 H locs)
    (kx : ∀ (E : String) (ce : Cell) (q9 : Addr) (u : S) (H1 : Heap) (locs1 : List Loc), QX E u → zW D S0 (RepS u) H0 H1 locs1 → H1[q9]? = some ce → ce.vm = .none → s.vm.findClass E = some ce.cls → vx_W p l e R s m args below meth c H1 locs1 (cells + mc) (slots + ms) Q (F0 m pc ls rest) q9)
    (kk : ∀ (u : S) (H1 : Heap) (locs1 : List Loc), post u → zW D S0 (RepS u) H0 H1 locs1 → W p l e R s m args below meth c H1 locs1 (cells + mc) (slots + ms) Q (F0 m (pc + 3) ls rest)) : W p l e R s m args below meth c H locs cells slots Q (F0 m pc ls st0) := by
  obtain ⟨f, hP, hd, hS, hR⟩ := hW
  refine vx_callv hr hS (fun _ _ h => h) (fun _ h => h) (fun _ _ h => h) (fun E ce q9 u t H1 locs1 ht _ _ hB _ _ hS1 h1 h2 h3 => ?_) (fun u t H1 locs1 ht _ hp hB _ _ hS1 => ?_)
  · obtain ⟨hq, f1, g1, g2, g3⟩ := hB
    rw [ht] at g1 g3
    exact kx E ce q9 u H1 locs1 hq ⟨f1, g1, g2, hS1, g3⟩ h1 h2 h3
  · obtain ⟨f1, h1, h2, h3⟩ := hB
    rw [ht] at h1 h3
    exact kk u H1 locs1 hp ⟨f1, h1, h2, hS1, h3⟩
/-- a call that hands back a reference or null, or throws -/
theorem zxc_q {S : Type} {RepS : S → Nat → zF → Prop} {post : Option Nat → S → Prop} {QX : String → S → Prop} (hr : vx_Run p l e R s m args below meth c H locs cells slots mc ms (F0 m pc ls st0) rest (va_Qq post (zB D S0 RepS) (zA S0) a) (zX D S0 RepS QX) (zA S0)) (hW : zW D S0 Rep H0 H locs)
    (kx : ∀ (E : String) (ce : Cell) (q9 : Addr) (u : S) (H1 : Heap) (locs1 : List Loc), QX E u → zW D S0 (RepS u) H0 H1 locs1 → H1[q9]? = some ce → ce.vm = .none → s.vm.findClass E = some ce.cls → vx_W p l e R s m args below meth c H1 locs1 (cells + mc) (slots + ms) Q (F0 m pc ls rest) q9)
    (kk : ∀ (r : Option Nat) (u : S) (H1 : Heap) (locs1 : List Loc), post r u → zW D S0 (RepS u) H0 H1 locs1 → W p l e R s m args below meth c H1 locs1 (cells + mc) (slots + ms) Q (F0 m (pc + 3) ls (va_rf r :: rest))) : W p l e R s m args below meth c H locs cells slots Q (F0 m pc ls st0) := by
  obtain ⟨f, hP, hd, hS, hR⟩ := hW
  intro T hT X
  rcases hr T hT X with ⟨v, st₀, t, T', L, h0, X', hL, e1, e2, ⟨⟨r, u, hv, hp, hb⟩, hF⟩, st⟩ | ⟨q, st₀, t, T', L, E, ce, h0, X', hL, e1, e2, ⟨u, -, ⟨hq, hb⟩, hF⟩, hce, hcv, hcl, st⟩
  · cases hv
    obtain ⟨k1, k2, k3⟩ := vx_keep h0 e1 hS (fun _ _ h => h) (fun _ h => h) hL hF
    obtain ⟨f1, g1, g2, g3⟩ := hb
    rw [← e1] at g1 g3
    obtain ⟨t2, a1, b1⟩ := kk r u T'.heap (locs ++ L) hp ⟨f1, g1, g2, k3, g3⟩ T' rfl X'
    exact ⟨t2, st t2 a1, b1⟩
  · obtain ⟨k1, k2, k3⟩ := vx_keep h0 e1 hS (fun _ _ h => h) (fun _ h => h) hL hF
    obtain ⟨f1, g1, g2, g3⟩ := hb
    rw [← e1] at g1 g3
    obtain ⟨t2, a1, b1⟩ := kx E ce q u T'.heap (locs ++ L) hq ⟨f1, g1, g2, k3, g3⟩ (by rw [e1]; exact hce) hcv hcl T' rfl X'
    exact ⟨t2, st.trans a1, b1⟩
end ZC
/-- a method without a table of handlers, that doesn't throw -/
theorem zMet {l : Launch} {y : MethodName} {ws ws' : List Cond} {rm : Room} {D : zD} {S0 : Nat} {Rep : Nat → zF → Prop} {av : List Value} {Qc : Array Value → State → Outcome → State → Prop} {mc ms : Nat} {cc : ByteArray} {maxL : Nat} {ret : Option FieldType}
    (hy : plainName y.cls = true) (hw : ws = Cond.code y cc maxL ret :: ws') (hlen : (lg_sl av).length ≤ maxL)
    (body : ∀ (p : Program) (e : Env) (s : State) (m : MethodId) (args : Array Value) (below : List Frame) (meth : Method) (c : Code) (ls : Array Slot), p.tables.exec = Jvm.exec → c.code = cc → meth.sig.returnType = ret → c.maxLocals = maxL → s.vm.findClass y.cls = some m.cls → (∀ w ∈ ws, w.before args s = true) → meth.locks = false → meth.name = y.name → S0 ≤ s.heap.size → zE D S0 s → zW D S0 Rep s.heap s.heap [] → lv_has ls maxL (lv_args 0 av) →
      W p l e rm s m args below meth c s.heap [] 0 0 (MQ below Qc args s mc ms (zA S0)) (F0 m 0 ls [])) : Met l y ws rm (zPc D S0 Rep av) Qc mc ms (zA S0) := by
  refine Met.ofW (cc := cc) (maxL := maxL) (ret := ret) hy hw ?_
  intro p e s m args below meth c s₁ B hml hv
  obtain ⟨rfl, hs, hE, f, hP, hd, hR⟩ := hv
  rw [lg_entry_eq]
  exact body p e s m _ below meth c _ B.exec B.bytes B.returns hml (findClass_of_methodNamed B.named) (atoms_spec (ws := ws) B.pre) B.notSynchronized (name_of_methodNamed B.named B.method).1 hs hE ⟨f, hP, hd, va_S.rf, hR⟩ (lv_entry av hlen)
/-- .. that may throw -/
theorem zMetX {l : Launch} {y : MethodName} {ws ws' : List Cond} {rm : Room} {D : zD} {S0 : Nat} {Rep : Nat → zF → Prop} {av : List Value} {Qc : Array Value → State → Outcome → State → Prop} {XC : String → State → State → Prop} {mc ms : Nat} {cc : ByteArray} {maxL : Nat} {ret : Option FieldType}
    (hy : plainName y.cls = true) (hw : ws = Cond.code y cc maxL ret :: ws') (hlen : (lg_sl av).length ≤ maxL)
    (body : ∀ (p : Program) (e : Env) (s : State) (m : MethodId) (args : Array Value) (below : List Frame) (meth : Method) (c : Code) (ls : Array Slot), p.tables.exec = Jvm.exec → c.code = cc → meth.sig.returnType = ret → c.maxLocals = maxL → s.vm.findClass y.cls = some m.cls → (∀ w ∈ ws, w.before args s = true) → meth.locks = false → meth.name = y.name → (∀ x ∈ c.exceptionTable.toList, False) → S0 ≤ s.heap.size → zE D S0 s → zW D S0 Rep s.heap s.heap [] → lv_has ls maxL (lv_args 0 av) →
      W p l e rm s m args below meth c s.heap [] 0 0 (vx_MQ below Qc XC args s mc ms (zA S0)) (F0 m 0 ls [])) : vx_Met l y ws rm (zPc D S0 Rep av) Qc XC mc ms (zA S0) := by
  refine vx_ofW (cc := cc) (maxL := maxL) (ret := ret) hy hw ?_
  intro p e s m args below meth c s₁ B hml ht hv
  obtain ⟨rfl, hs, hE, f, hP, hd, hR⟩ := hv
  rw [lg_entry_eq]
  exact body p e s m _ below meth c _ B.exec B.bytes B.returns hml (findClass_of_methodNamed B.named) (atoms_spec (ws := ws) B.pre) B.notSynchronized (name_of_methodNamed B.named B.method).1 ht hs hE ⟨f, hP, hd, va_S.rf, hR⟩ (lv_entry av hlen)
section ZRet
variable {p : Program} {l : Launch} {e : Env} {R : Room} {s : State} {m : MethodId} {args : Array Value} {below : List Frame} {meth : Method} {c : Code} {H : Heap} {locs : List Loc} {cells slots : Nat}
variable {cc : ByteArray} {pc : Nat} {ls : Array Slot} {D : zD} {S0 : Nat} {Rep : Nat → zF → Prop} {a : Array Value}
theorem zW.ends {S : Type} {RepS : S → Nat → zF → Prop} {u : S} (hW : zW D S0 (RepS u) s.heap H locs) : (∀ t : State, t.heap = H → zB D S0 RepS u t ∧ va_F (zA S0) s t) ∧ ∀ q ∈ locs, zA S0 q.base := by
  obtain ⟨f, hP, hd, hS, hR⟩ := hW
  exact ⟨fun t ht => ⟨⟨f, by rw [ht]; exact hP, hd, by rw [ht]; exact hR⟩, hS.F ht⟩, hS.2.2⟩
theorem z_iret {S : Type} {RepS : S → Nat → zF → Prop} {post : Int32 → S → Prop} {u : S} {v : Int32} (hx : p.tables.exec = Jvm.exec) (hb : c.code = cc) (hr : meth.sig.returnType = some .int) (hlocks : meth.locks = false) (hW : zW D S0 (RepS u) s.heap H locs) (hp : post v u) (hdg : decode cc pc = .ok (.ireturn, 1)) :
    W p l e R s m args below meth c H locs cells slots (MQ below (va_Qi post (zB D S0 RepS) (zA S0)) args s cells slots (zA S0)) (F0 m pc ls [.int v]) := by
  obtain ⟨h1, h2⟩ := hW.ends
  exact W.iret hx hb hr (fun t ht _ => ⟨⟨v, u, rfl, hp, (h1 t ht).1⟩, (h1 t ht).2⟩) h2 hdg hlocks
theorem z_zret {S : Type} {RepS : S → Nat → zF → Prop} {post : Int32 → S → Prop} {u : S} {v : Int32} (hx : p.tables.exec = Jvm.exec) (hb : c.code = cc) (hr : meth.sig.returnType = some .boolean) (hlocks : meth.locks = false) (hW : zW D S0 (RepS u) s.heap H locs) (hn : narrow .boolean (.int v) = .int v) (hp : post v u) (hdg : decode cc pc = .ok (.ireturn, 1)) :
    W p l e R s m args below meth c H locs cells slots (MQ below (va_Qi post (zB D S0 RepS) (zA S0)) args s cells slots (zA S0)) (F0 m pc ls [.int v]) := by
  obtain ⟨h1, h2⟩ := hW.ends
  exact W.zret hx hb hr hn (fun t ht _ => ⟨⟨v, u, rfl, hp, (h1 t ht).1⟩, (h1 t ht).2⟩) h2 hdg hlocks
theorem z_vret {S : Type} {RepS : S → Nat → zF → Prop} {post : S → Prop} {u : S} (hx : p.tables.exec = Jvm.exec) (hb : c.code = cc) (hr : meth.sig.returnType = none) (hlocks : meth.locks = false) (hW : zW D S0 (RepS u) s.heap H locs) (hp : post u) (hdg : decode cc pc = .ok (.return_, 1)) :
    W p l e R s m args below meth c H locs cells slots (MQ below (va_Qv post (zB D S0 RepS) (zA S0)) args s cells slots (zA S0)) (F0 m pc ls []) := by
  obtain ⟨h1, h2⟩ := hW.ends
  exact W.vret hx hb hr (fun t ht _ => ⟨⟨u, rfl, hp, (h1 t ht).1⟩, (h1 t ht).2⟩) h2 hdg hlocks
theorem z_aret {S : Type} {RepS : S → Nat → zF → Prop} {post : Option Nat → S → Prop} {u : S} {nm : String} (r : Option Nat) {v : Value} (hv : va_rf r = v) (hx : p.tables.exec = Jvm.exec) (hb : c.code = cc) (hr : meth.sig.returnType = some (.object nm)) (hlocks : meth.locks = false) (hW : zW D S0 (RepS u) s.heap H locs) (hp : post r u) (hdg : decode cc pc = .ok (.areturn, 1)) :
    W p l e R s m args below meth c H locs cells slots (MQ below (va_Qq post (zB D S0 RepS) (zA S0)) args s cells slots (zA S0)) (F0 m pc ls [v]) := by
  subst hv
  obtain ⟨h1, h2⟩ := hW.ends
  exact W.aret hx hb hr (Or.inl ⟨nm, rfl⟩) (va_rf_or r) (fun t ht _ => ⟨⟨r, u, rfl, hp, (h1 t ht).1⟩, (h1 t ht).2⟩) h2 hdg hlocks
/-- 'throw new E("text")' -/
theorem z_throw {S : Type} {RepS : S → Nat → zF → Prop} {QX : String → S → Prop} {Qc : Array Value → State → Outcome → State → Prop} {u : S} {rest : List Value} (hx : p.tables.exec = Jvm.exec) (hb : c.code = cc) (hl : l.stackTraces = false) {cls text : String} {ik is ic mc ms : Nat}
    (hown : s.vm.findClass RX5 = some m.cls) (hcls : Bundle.fit cls = true)
    (hk : (Cond.classLink RX5 ik cls).before args s = true) (hini : (Cond.initialized cls).before args s = true) (hstr : (is, text) ∈ zStr) (hat : ∀ w ∈ vx_atS RX5 ic cls ["java/lang/RuntimeException", "java/lang/Exception"], w.before args s = true)
    (hgood : ∀ w ∈ Cond.classLink RX5 ik cls :: Cond.initialized cls :: vx_atS RX5 ic cls ["java/lang/RuntimeException", "java/lang/Exception"], vx_ot w = true)
    (hE : zE D S0 s) (hW : zW D S0 (RepS u) s.heap H locs) (hmono : ∀ n n' f, RepS u n f → n ≤ n' → RepS u n' f) (hsize : ls.size = c.maxLocals)
    (d0 : decode cc pc = .ok (.new ik, 3)) (d3 : decode cc (pc + 3) = .ok (.dup, 1)) (d4 : decode cc (pc + 4) = .ok (.ldc is, 2)) (d6 : decode cc (pc + 6) = .ok (.invokespecial ic, 3)) (d9 : decode cc (pc + 9) = .ok (.athrow, 1))
    (hout : ∀ x ∈ c.exceptionTable.toList, False)
    (hRframes : 5 < R.frames) (hRlocals : (rest.map fun v => v.category).sum + 82 ≤ R.locals) (hRcells : cells + 1 ≤ R.cells) (hRslots : slots + 6 ≤ R.slots) (hlocks : meth.locks = false)
    (hp : QX cls u) (hc : cells + 1 ≤ mc) (hs : slots + 6 ≤ ms) :
    W p l e R s m args below meth c H locs cells slots (vx_MQ below Qc (zX D S0 RepS QX) args s mc ms (zA S0)) (F0 m pc ls rest) := by
  obtain ⟨f, hP, hd, hS, hR⟩ := hW
  obtain ⟨-, -, hU, hN, hT⟩ := hE
  obtain ⟨sa, hsa⟩ := hT _ hstr
  refine vx_throwS (names := ["java/lang/RuntimeException", "java/lang/Exception"]) hx hb hl hown hcls (by decide +kernel) hk hini hsa hat hgood hU hN hS hsize d0 d3 d4 d6 d9 (fun x h => (hout x h).elim) hRframes hRlocals hRcells hRslots hlocks (fun t hal hz hq => ?_) hS.2.2 hc hs
  refine ⟨u, trivial, ⟨hp, f, fun q e he => (hP q e he).kept (hq q (hP q e he).lt), hd, hmono _ _ _ hR hz⟩, Nat.le_trans hS.1 hz, fun q h1 h2 => ?_⟩
  rw [hq q (Nat.lt_of_lt_of_le h1 hS.1)]
  exact hS.2.1 q h1 h2
end ZRet
end
section
/-! THE CLASS' WORLD. k.1: ints by (key, place): 0 copyCount 1 requestCount 2 day 3 post.size (place 0); 4 debts 5 homeCopies 6 freeLoans (rows); 10.. a Copy's fields by its address; 20.. a Request's; 30.. a Sent's. k.2.1: references: 0 copies 1 requests 2 waiting (rows); 22 Request.copy; 32 Sent.copy 33 Sent.request. k.2.2: what lies at an address: 1 Copy, 3 Request, 4 Sent. -/
abbrev kS : Type := (Nat → Nat → Int32) × (Nat → Nat → Option Nat) × (Nat → Nat)
def kset (k : kS) (a i : Nat) (v : Int32) : kS := (fun b => if b = a then upd (k.1 b) i v else k.1 b, k.2)
def kptr (k : kS) (a i : Nat) (v : Option Nat) : kS := (k.1, fun b => if b = a then va_up (k.2.1 b) i v else k.2.1 b, k.2.2)
def knew (k : kS) (q t : Nat) : kS := (fun b => if 10 ≤ b then upd (k.1 b) q 0 else k.1 b, fun b => if 10 ≤ b then va_up (k.2.1 b) q none else k.2.1 b, va_up k.2.2 q t)
def xoU (S0 : Nat) (k : kS) : List Value := [.ref (S0 + 1), .ref (S0 + 2), .ref (S0 + 3), .ref (S0 + 5), .int (k.1 0 0), .int (k.1 1 0), .int (k.1 2 0)]
def xoP (S0 : Nat) (k : kS) : List Value := [.ref (S0 + 4), .int (k.1 3 0)]
def xoA (S0 : Nat) : List Value := [.ref (S0 + 6), .ref (S0 + 7), .ref (S0 + 8)]
def xoC (k : kS) (c : Nat) : List Value := [.int (k.1 10 c), .int (k.1 11 c), .int (k.1 12 c), .int (k.1 13 c), .int (k.1 14 c), .int (k.1 15 c), .int (k.1 16 c), .int (k.1 17 c)]
def xoR (k : kS) (c : Nat) : List Value := [.int (k.1 20 c), .int (k.1 21 c), va_rf (k.2.1 22 c), .int (k.1 23 c), .int (k.1 24 c), .int (k.1 25 c), .int (k.1 26 c)]
def xoS (k : kS) (c : Nat) : List Value := [.int (k.1 30 c), .int (k.1 31 c), va_rf (k.2.1 32 c), va_rf (k.2.1 33 c)]
def xE (D : zD) (S0 : Nat) (k : kS) : zF := fun q =>
  if q = S0 then some (.inr (5, xoU S0 k))
  else if q = S0 + 1 then some (.inl (D.2.2.1, 20, .inr (.inr (.inr (.inr (k.2.1 0))))))
  else if q = S0 + 2 then some (.inl (D.2.2.2.1, 40, .inr (.inr (.inr (.inr (k.2.1 1))))))
  else if q = S0 + 3 then some (.inr (2, xoP S0 k))
  else if q = S0 + 4 then some (.inl (D.2.2.2.2.1, 552, .inr (.inr (.inr (.inr (k.2.1 2))))))
  else if q = S0 + 5 then some (.inr (0, xoA S0))
  else if q = S0 + 6 then some (.inl (D.2.1, 36, .inl (k.1 4)))
  else if q = S0 + 7 then some (.inl (D.2.1, 6, .inl (k.1 5)))
  else if q = S0 + 8 then some (.inl (D.2.1, 6, .inl (k.1 6)))
  else if k.2.2 q = 1 then some (.inr (1, xoC k q))
  else if k.2.2 q = 3 then some (.inr (3, xoR k q))
  else if k.2.2 q = 4 then some (.inr (4, xoS k q))
  else none
def xF (D : zD) (S0 : Nat) (g : zF) (k : kS) : zF := fun q => if S0 + 9 ≤ q ∧ q < S0 + 30 then g q else xE D S0 k q
/-- references point to what their types say -/
def kT (k : kS) : Prop := (∀ i c, k.2.1 0 i = some c → k.2.2 c = 1) ∧ (∀ i c, k.2.1 1 i = some c → k.2.2 c = 3) ∧ (∀ i c, k.2.1 2 i = some c → k.2.2 c = 4) ∧ (∀ r c, k.2.2 r = 3 → k.2.1 22 r = some c → k.2.2 c = 1) ∧ (∀ r c, k.2.2 r = 4 → k.2.1 32 r = some c → k.2.2 c = 1) ∧ (∀ r c, k.2.2 r = 4 → k.2.1 33 r = some c → k.2.2 c = 3)
/-- what was there is there still -/
def kle (k0 k : kS) : Prop := ∀ a, k0.2.2 a ≠ 0 → k.2.2 a = k0.2.2 a
theorem kle_rf (k : kS) : kle k k := fun _ _ => rfl
theorem kle_tr {a b c : kS} (h1 : kle a b) (h2 : kle b c) : kle a c := fun q h => (h2 q (by rw [h1 q h]; exact h)).trans (h1 q h)
theorem kle_1 {a b : kS} {c : Nat} (h : kle a b) (hc : a.2.2 c = 1) : b.2.2 c = 1 := (h c (by rw [hc]; decide)).trans hc
theorem kle_3 {a b : kS} {c : Nat} (h : kle a b) (hc : a.2.2 c = 3) : b.2.2 c = 3 := (h c (by rw [hc]; decide)).trans hc
theorem kle_4 {a b : kS} {c : Nat} (h : kle a b) (hc : a.2.2 c = 4) : b.2.2 c = 4 := (h c (by rw [hc]; decide)).trans hc
def kL (S0 : Nat) (k : kS) : Prop := ∀ q, k.2.2 q ≠ 0 → S0 + 30 ≤ q ∧ (k.2.2 q = 1 ∨ k.2.2 q = 3 ∨ k.2.2 q = 4)
def xR (D : zD) (S0 : Nat) (g : zF) (k0 k : kS) (n : Nat) (f : zF) : Prop := f = xF D S0 g k ∧ S0 + 30 ≤ n ∧ kT k ∧ kL S0 k ∧ kle k0 k
section XW
variable {D : zD} {S0 : Nat} {g : zF} {k0 k : kS}
theorem xR_mono (n n' : Nat) (f : zF) (h : xR D S0 g k0 k n f) (hn : n ≤ n') : xR D S0 g k0 k n' f := ⟨h.1, Nat.le_trans h.2.1 hn, h.2.2⟩
theorem xR_tr {k1 : kS} (h : kle k0 k) (n : Nat) (f : zF) (h2 : xR D S0 g k k1 n f) : xR D S0 g k0 k1 n f := ⟨h2.1, h2.2.1, h2.2.2.1, h2.2.2.2.1, kle_tr h h2.2.2.2.2⟩
theorem xW_kle {H0 H : Heap} {locs : List Loc} (h : zW D S0 (xR D S0 g k0 k) H0 H locs) : kle k0 k := by
  obtain ⟨f, -, -, -, h4⟩ := h
  exact h4.2.2.2.2
theorem xW_T {H0 H : Heap} {locs : List Loc} (h : zW D S0 (xR D S0 g k0 k) H0 H locs) : kT k := by
  obtain ⟨f, -, -, -, h4⟩ := h
  exact h4.2.2.1
theorem xW_start {H0 H : Heap} {locs : List Loc} (h : zW D S0 (xR D S0 g k0 k) H0 H locs) : zW D S0 (xR D S0 g k k) H0 H locs := h.mono (fun n f q => ⟨q.1, q.2.1, q.2.2.1, q.2.2.2.1, kle_rf _⟩)
theorem xC_U (n : Nat) (f : zF) (h : xR D S0 g k0 k n f) : f (S0) = some (.inr (5, xoU S0 k)) := by
  rw [h.1]
  simp [xF, xE]
  intro hh
  omega
theorem xC_P (n : Nat) (f : zF) (h : xR D S0 g k0 k n f) : f (S0 + 3) = some (.inr (2, xoP S0 k)) := by
  rw [h.1]
  simp [xF, xE]
theorem xC_A (n : Nat) (f : zF) (h : xR D S0 g k0 k n f) : f (S0 + 5) = some (.inr (0, xoA S0)) := by
  rw [h.1]
  simp [xF, xE]
theorem xC_q0 (n : Nat) (f : zF) (h : xR D S0 g k0 k n f) : f (S0 + 1) = some (.inl (D.2.2.1, 20, .inr (.inr (.inr (.inr (k.2.1 0)))))) := by
  rw [h.1]
  simp [xF, xE]
theorem xC_q1 (n : Nat) (f : zF) (h : xR D S0 g k0 k n f) : f (S0 + 2) = some (.inl (D.2.2.2.1, 40, .inr (.inr (.inr (.inr (k.2.1 1)))))) := by
  rw [h.1]
  simp [xF, xE]
theorem xC_q2 (n : Nat) (f : zF) (h : xR D S0 g k0 k n f) : f (S0 + 4) = some (.inl (D.2.2.2.2.1, 552, .inr (.inr (.inr (.inr (k.2.1 2)))))) := by
  rw [h.1]
  simp [xF, xE]
theorem xC_a4 (n : Nat) (f : zF) (h : xR D S0 g k0 k n f) : f (S0 + 6) = some (.inl (D.2.1, 36, .inl (k.1 4))) := by
  rw [h.1]
  simp [xF, xE]
theorem xC_a5 (n : Nat) (f : zF) (h : xR D S0 g k0 k n f) : f (S0 + 7) = some (.inl (D.2.1, 6, .inl (k.1 5))) := by
  rw [h.1]
  simp [xF, xE]
theorem xC_a6 (n : Nat) (f : zF) (h : xR D S0 g k0 k n f) : f (S0 + 8) = some (.inl (D.2.1, 6, .inl (k.1 6))) := by
  rw [h.1]
  simp [xF, xE]
theorem xC_C {c : Nat} (hc : k.2.2 c = 1) (n : Nat) (f : zF) (h : xR D S0 g k0 k n f) : f c = some (.inr (1, xoC k c)) := by
  have hl := (h.2.2.2.1 c (by rw [hc]; decide)).1
  rw [h.1]
  simp only [xF, xE]
  rw [if_neg (by omega), if_neg (by omega), if_neg (by omega), if_neg (by omega), if_neg (by omega), if_neg (by omega), if_neg (by omega), if_neg (by omega), if_neg (by omega), if_neg (by omega)]
  simp [hc]
theorem xC_R {c : Nat} (hc : k.2.2 c = 3) (n : Nat) (f : zF) (h : xR D S0 g k0 k n f) : f c = some (.inr (3, xoR k c)) := by
  have hl := (h.2.2.2.1 c (by rw [hc]; decide)).1
  rw [h.1]
  simp only [xF, xE]
  rw [if_neg (by omega), if_neg (by omega), if_neg (by omega), if_neg (by omega), if_neg (by omega), if_neg (by omega), if_neg (by omega), if_neg (by omega), if_neg (by omega), if_neg (by omega)]
  simp [hc]
theorem xC_S {c : Nat} (hc : k.2.2 c = 4) (n : Nat) (f : zF) (h : xR D S0 g k0 k n f) : f c = some (.inr (4, xoS k c)) := by
  have hl := (h.2.2.2.1 c (by rw [hc]; decide)).1
  rw [h.1]
  simp only [xF, xE]
  rw [if_neg (by omega), if_neg (by omega), if_neg (by omega), if_neg (by omega), if_neg (by omega), if_neg (by omega), if_neg (by omega), if_neg (by omega), if_neg (by omega), if_neg (by omega)]
  simp [hc]
theorem xP_U4 {v : Int32} (n : Nat) (f : zF) (h : xR D S0 g k0 k n f) : xR D S0 g k0 (kset k 0 0 v) n (va_up f (S0) (some (.inr (5, (xoU S0 k).set 4 (.int v))))) := by
  refine ⟨?_, h.2.1, h.2.2.1, h.2.2.2.1, h.2.2.2.2⟩
  rw [h.1]
  funext q
  by_cases hq : q = S0
  · subst hq
    simp [xF, xE, xoU, xoP, xoA, xoC, xoR, xoS, kset, kptr, upd, va_up]
    intro hh
    omega
  · simp [xF, xE, xoU, xoP, xoA, xoC, xoR, xoS, kset, kptr, upd, va_up, hq]
theorem xP_U5 {v : Int32} (n : Nat) (f : zF) (h : xR D S0 g k0 k n f) : xR D S0 g k0 (kset k 1 0 v) n (va_up f (S0) (some (.inr (5, (xoU S0 k).set 5 (.int v))))) := by
  refine ⟨?_, h.2.1, h.2.2.1, h.2.2.2.1, h.2.2.2.2⟩
  rw [h.1]
  funext q
  by_cases hq : q = S0
  · subst hq
    simp [xF, xE, xoU, xoP, xoA, xoC, xoR, xoS, kset, kptr, upd, va_up]
    intro hh
    omega
  · simp [xF, xE, xoU, xoP, xoA, xoC, xoR, xoS, kset, kptr, upd, va_up, hq]
theorem xP_U6 {v : Int32} (n : Nat) (f : zF) (h : xR D S0 g k0 k n f) : xR D S0 g k0 (kset k 2 0 v) n (va_up f (S0) (some (.inr (5, (xoU S0 k).set 6 (.int v))))) := by
  refine ⟨?_, h.2.1, h.2.2.1, h.2.2.2.1, h.2.2.2.2⟩
  rw [h.1]
  funext q
  by_cases hq : q = S0
  · subst hq
    simp [xF, xE, xoU, xoP, xoA, xoC, xoR, xoS, kset, kptr, upd, va_up]
    intro hh
    omega
  · simp [xF, xE, xoU, xoP, xoA, xoC, xoR, xoS, kset, kptr, upd, va_up, hq]
theorem xP_P1 {v : Int32} (n : Nat) (f : zF) (h : xR D S0 g k0 k n f) : xR D S0 g k0 (kset k 3 0 v) n (va_up f (S0 + 3) (some (.inr (2, (xoP S0 k).set 1 (.int v))))) := by
  refine ⟨?_, h.2.1, h.2.2.1, h.2.2.2.1, h.2.2.2.2⟩
  rw [h.1]
  funext q
  by_cases hq : q = S0 + 3
  · subst hq
    simp [xF, xE, xoU, xoP, xoA, xoC, xoR, xoS, kset, kptr, upd, va_up]
  · simp [xF, xE, xoU, xoP, xoA, xoC, xoR, xoS, kset, kptr, upd, va_up, hq]
theorem xP_a4 {i : Nat} {v : Int32} (n : Nat) (f : zF) (h : xR D S0 g k0 k n f) : xR D S0 g k0 (kset k 4 i v) n (va_up f (S0 + 6) (some (.inl (D.2.1, 36, .inl (upd (k.1 4) i v))))) := by
  refine ⟨?_, h.2.1, h.2.2.1, h.2.2.2.1, h.2.2.2.2⟩
  rw [h.1]
  funext q
  by_cases hq : q = S0 + 6
  · subst hq
    simp [xF, xE, kset, va_up]
  · simp [xF, xE, xoU, xoP, xoA, xoC, xoR, xoS, kset, va_up, hq]
theorem xP_a5 {i : Nat} {v : Int32} (n : Nat) (f : zF) (h : xR D S0 g k0 k n f) : xR D S0 g k0 (kset k 5 i v) n (va_up f (S0 + 7) (some (.inl (D.2.1, 6, .inl (upd (k.1 5) i v))))) := by
  refine ⟨?_, h.2.1, h.2.2.1, h.2.2.2.1, h.2.2.2.2⟩
  rw [h.1]
  funext q
  by_cases hq : q = S0 + 7
  · subst hq
    simp [xF, xE, kset, va_up]
  · simp [xF, xE, xoU, xoP, xoA, xoC, xoR, xoS, kset, va_up, hq]
theorem xP_a6 {i : Nat} {v : Int32} (n : Nat) (f : zF) (h : xR D S0 g k0 k n f) : xR D S0 g k0 (kset k 6 i v) n (va_up f (S0 + 8) (some (.inl (D.2.1, 6, .inl (upd (k.1 6) i v))))) := by
  refine ⟨?_, h.2.1, h.2.2.1, h.2.2.2.1, h.2.2.2.2⟩
  rw [h.1]
  funext q
  by_cases hq : q = S0 + 8
  · subst hq
    simp [xF, xE, kset, va_up]
  · simp [xF, xE, xoU, xoP, xoA, xoC, xoR, xoS, kset, va_up, hq]
theorem xP_q0 {i : Nat} {v : Option Nat} (hv : ∀ c, v = some c → k.2.2 c = 1) (n : Nat) (f : zF) (h : xR D S0 g k0 k n f) : xR D S0 g k0 (kptr k 0 i v) n (va_up f (S0 + 1) (some (.inl (D.2.2.1, 20, .inr (.inr (.inr (.inr (va_up (k.2.1 0) i v)))))))) := by
  refine ⟨?_, h.2.1, ⟨?_, h.2.2.1.2.1, h.2.2.1.2.2.1, h.2.2.1.2.2.2.1, h.2.2.1.2.2.2.2.1, h.2.2.1.2.2.2.2.2⟩, h.2.2.2.1, h.2.2.2.2⟩
  · rw [h.1]
    funext q
    by_cases hq : q = S0 + 1
    · subst hq
      simp [xF, xE, kptr, va_up]
    · simp [xF, xE, xoU, xoP, xoA, xoC, xoR, xoS, kptr, va_up, hq]
  · intro j c hj
    have hj' : va_up (k.2.1 0) i v j = some c := hj
    by_cases hji : j = i
    · rw [hji, va_up_self] at hj'
      exact hv c hj'
    · rw [va_up_ne _ _ hji] at hj'
      exact h.2.2.1.1 j c hj'
theorem xP_q1 {i : Nat} {v : Option Nat} (hv : ∀ c, v = some c → k.2.2 c = 3) (n : Nat) (f : zF) (h : xR D S0 g k0 k n f) : xR D S0 g k0 (kptr k 1 i v) n (va_up f (S0 + 2) (some (.inl (D.2.2.2.1, 40, .inr (.inr (.inr (.inr (va_up (k.2.1 1) i v)))))))) := by
  refine ⟨?_, h.2.1, ⟨h.2.2.1.1, ?_, h.2.2.1.2.2.1, h.2.2.1.2.2.2.1, h.2.2.1.2.2.2.2.1, h.2.2.1.2.2.2.2.2⟩, h.2.2.2.1, h.2.2.2.2⟩
  · rw [h.1]
    funext q
    by_cases hq : q = S0 + 2
    · subst hq
      simp [xF, xE, kptr, va_up]
    · simp [xF, xE, xoU, xoP, xoA, xoC, xoR, xoS, kptr, va_up, hq]
  · intro j c hj
    have hj' : va_up (k.2.1 1) i v j = some c := hj
    by_cases hji : j = i
    · rw [hji, va_up_self] at hj'
      exact hv c hj'
    · rw [va_up_ne _ _ hji] at hj'
      exact h.2.2.1.2.1 j c hj'
theorem xP_q2 {i : Nat} {v : Option Nat} (hv : ∀ c, v = some c → k.2.2 c = 4) (n : Nat) (f : zF) (h : xR D S0 g k0 k n f) : xR D S0 g k0 (kptr k 2 i v) n (va_up f (S0 + 4) (some (.inl (D.2.2.2.2.1, 552, .inr (.inr (.inr (.inr (va_up (k.2.1 2) i v)))))))) := by
  refine ⟨?_, h.2.1, ⟨h.2.2.1.1, h.2.2.1.2.1, ?_, h.2.2.1.2.2.2.1, h.2.2.1.2.2.2.2.1, h.2.2.1.2.2.2.2.2⟩, h.2.2.2.1, h.2.2.2.2⟩
  · rw [h.1]
    funext q
    by_cases hq : q = S0 + 4
    · subst hq
      simp [xF, xE, kptr, va_up]
    · simp [xF, xE, xoU, xoP, xoA, xoC, xoR, xoS, kptr, va_up, hq]
  · intro j c hj
    have hj' : va_up (k.2.1 2) i v j = some c := hj
    by_cases hji : j = i
    · rw [hji, va_up_self] at hj'
      exact hv c hj'
    · rw [va_up_ne _ _ hji] at hj'
      exact h.2.2.1.2.2.1 j c hj'
theorem xP_C0 {c : Nat} {v : Int32} (hc : k.2.2 c = 1) (n : Nat) (f : zF) (h : xR D S0 g k0 k n f) : xR D S0 g k0 (kset k 10 c v) n (va_up f c (some (.inr (1, (xoC k c).set 0 (.int v))))) := by
  have hl := (h.2.2.2.1 c (by rw [hc]; decide)).1
  refine ⟨?_, h.2.1, h.2.2.1, h.2.2.2.1, h.2.2.2.2⟩
  rw [h.1]
  funext q
  by_cases hq : q = c
  · subst hq
    rw [va_up_self]
    simp only [xF, xE]
    rw [if_neg (by omega), if_neg (by omega), if_neg (by omega), if_neg (by omega), if_neg (by omega), if_neg (by omega), if_neg (by omega), if_neg (by omega), if_neg (by omega), if_neg (by omega)]
    simp [xF, xE, xoU, xoP, xoA, xoC, xoR, xoS, kset, kptr, upd, va_up, hc]
  · simp [xF, xE, xoU, xoP, xoA, xoC, xoR, xoS, kset, kptr, upd, va_up, hq]
theorem xP_C1 {c : Nat} {v : Int32} (hc : k.2.2 c = 1) (n : Nat) (f : zF) (h : xR D S0 g k0 k n f) : xR D S0 g k0 (kset k 11 c v) n (va_up f c (some (.inr (1, (xoC k c).set 1 (.int v))))) := by
  have hl := (h.2.2.2.1 c (by rw [hc]; decide)).1
  refine ⟨?_, h.2.1, h.2.2.1, h.2.2.2.1, h.2.2.2.2⟩
  rw [h.1]
  funext q
  by_cases hq : q = c
  · subst hq
    rw [va_up_self]
    simp only [xF, xE]
    rw [if_neg (by omega), if_neg (by omega), if_neg (by omega), if_neg (by omega), if_neg (by omega), if_neg (by omega), if_neg (by omega), if_neg (by omega), if_neg (by omega), if_neg (by omega)]
    simp [xF, xE, xoU, xoP, xoA, xoC, xoR, xoS, kset, kptr, upd, va_up, hc]
  · simp [xF, xE, xoU, xoP, xoA, xoC, xoR, xoS, kset, kptr, upd, va_up, hq]
theorem xP_C2 {c : Nat} {v : Int32} (hc : k.2.2 c = 1) (n : Nat) (f : zF) (h : xR D S0 g k0 k n f) : xR D S0 g k0 (kset k 12 c v) n (va_up f c (some (.inr (1, (xoC k c).set 2 (.int v))))) := by
  have hl := (h.2.2.2.1 c (by rw [hc]; decide)).1
  refine ⟨?_, h.2.1, h.2.2.1, h.2.2.2.1, h.2.2.2.2⟩
  rw [h.1]
  funext q
  by_cases hq : q = c
  · subst hq
    rw [va_up_self]
    simp only [xF, xE]
    rw [if_neg (by omega), if_neg (by omega), if_neg (by omega), if_neg (by omega), if_neg (by omega), if_neg (by omega), if_neg (by omega), if_neg (by omega), if_neg (by omega), if_neg (by omega)]
    simp [xF, xE, xoU, xoP, xoA, xoC, xoR, xoS, kset, kptr, upd, va_up, hc]
  · simp [xF, xE, xoU, xoP, xoA, xoC, xoR, xoS, kset, kptr, upd, va_up, hq]
theorem xP_C3 {c : Nat} {v : Int32} (hc : k.2.2 c = 1) (n : Nat) (f : zF) (h : xR D S0 g k0 k n f) : xR D S0 g k0 (kset k 13 c v) n (va_up f c (some (.inr (1, (xoC k c).set 3 (.int v))))) := by
  have hl := (h.2.2.2.1 c (by rw [hc]; decide)).1
  refine ⟨?_, h.2.1, h.2.2.1, h.2.2.2.1, h.2.2.2.2⟩
  rw [h.1]
  funext q
  by_cases hq : q = c
  · subst hq
    rw [va_up_self]
    simp only [xF, xE]
    rw [if_neg (by omega), if_neg (by omega), if_neg (by omega), if_neg (by omega), if_neg (by omega), if_neg (by omega), if_neg (by omega), if_neg (by omega), if_neg (by omega), if_neg (by omega)]
    simp [xF, xE, xoU, xoP, xoA, xoC, xoR, xoS, kset, kptr, upd, va_up, hc]
  · simp [xF, xE, xoU, xoP, xoA, xoC, xoR, xoS, kset, kptr, upd, va_up, hq]
theorem xP_C4 {c : Nat} {v : Int32} (hc : k.2.2 c = 1) (n : Nat) (f : zF) (h : xR D S0 g k0 k n f) : xR D S0 g k0 (kset k 14 c v) n (va_up f c (some (.inr (1, (xoC k c).set 4 (.int v))))) := by
  have hl := (h.2.2.2.1 c (by rw [hc]; decide)).1
  refine ⟨?_, h.2.1, h.2.2.1, h.2.2.2.1, h.2.2.2.2⟩
  rw [h.1]
  funext q
  by_cases hq : q = c
  · subst hq
    rw [va_up_self]
    simp only [xF, xE]
    rw [if_neg (by omega), if_neg (by omega), if_neg (by omega), if_neg (by omega), if_neg (by omega), if_neg (by omega), if_neg (by omega), if_neg (by omega), if_neg (by omega), if_neg (by omega)]
    simp [xF, xE, xoU, xoP, xoA, xoC, xoR, xoS, kset, kptr, upd, va_up, hc]
  · simp [xF, xE, xoU, xoP, xoA, xoC, xoR, xoS, kset, kptr, upd, va_up, hq]
theorem xP_C5 {c : Nat} {v : Int32} (hc : k.2.2 c = 1) (n : Nat) (f : zF) (h : xR D S0 g k0 k n f) : xR D S0 g k0 (kset k 15 c v) n (va_up f c (some (.inr (1, (xoC k c).set 5 (.int v))))) := by
  have hl := (h.2.2.2.1 c (by rw [hc]; decide)).1
  refine ⟨?_, h.2.1, h.2.2.1, h.2.2.2.1, h.2.2.2.2⟩
  rw [h.1]
  funext q
  by_cases hq : q = c
  · subst hq
    rw [va_up_self]
    simp only [xF, xE]
    rw [if_neg (by omega), if_neg (by omega), if_neg (by omega), if_neg (by omega), if_neg (by omega), if_neg (by omega), if_neg (by omega), if_neg (by omega), if_neg (by omega), if_neg (by omega)]
    simp [xF, xE, xoU, xoP, xoA, xoC, xoR, xoS, kset, kptr, upd, va_up, hc]
  · simp [xF, xE, xoU, xoP, xoA, xoC, xoR, xoS, kset, kptr, upd, va_up, hq]
theorem xP_C6 {c : Nat} {v : Int32} (hc : k.2.2 c = 1) (n : Nat) (f : zF) (h : xR D S0 g k0 k n f) : xR D S0 g k0 (kset k 16 c v) n (va_up f c (some (.inr (1, (xoC k c).set 6 (.int v))))) := by
  have hl := (h.2.2.2.1 c (by rw [hc]; decide)).1
  refine ⟨?_, h.2.1, h.2.2.1, h.2.2.2.1, h.2.2.2.2⟩
  rw [h.1]
  funext q
  by_cases hq : q = c
  · subst hq
    rw [va_up_self]
    simp only [xF, xE]
    rw [if_neg (by omega), if_neg (by omega), if_neg (by omega), if_neg (by omega), if_neg (by omega), if_neg (by omega), if_neg (by omega), if_neg (by omega), if_neg (by omega), if_neg (by omega)]
    simp [xF, xE, xoU, xoP, xoA, xoC, xoR, xoS, kset, kptr, upd, va_up, hc]
  · simp [xF, xE, xoU, xoP, xoA, xoC, xoR, xoS, kset, kptr, upd, va_up, hq]
theorem xP_C7 {c : Nat} {v : Int32} (hc : k.2.2 c = 1) (n : Nat) (f : zF) (h : xR D S0 g k0 k n f) : xR D S0 g k0 (kset k 17 c v) n (va_up f c (some (.inr (1, (xoC k c).set 7 (.int v))))) := by
  have hl := (h.2.2.2.1 c (by rw [hc]; decide)).1
  refine ⟨?_, h.2.1, h.2.2.1, h.2.2.2.1, h.2.2.2.2⟩
  rw [h.1]
  funext q
  by_cases hq : q = c
  · subst hq
    rw [va_up_self]
    simp only [xF, xE]
    rw [if_neg (by omega), if_neg (by omega), if_neg (by omega), if_neg (by omega), if_neg (by omega), if_neg (by omega), if_neg (by omega), if_neg (by omega), if_neg (by omega), if_neg (by omega)]
    simp [xF, xE, xoU, xoP, xoA, xoC, xoR, xoS, kset, kptr, upd, va_up, hc]
  · simp [xF, xE, xoU, xoP, xoA, xoC, xoR, xoS, kset, kptr, upd, va_up, hq]
theorem xP_R0 {c : Nat} {v : Int32} (hc : k.2.2 c = 3) (n : Nat) (f : zF) (h : xR D S0 g k0 k n f) : xR D S0 g k0 (kset k 20 c v) n (va_up f c (some (.inr (3, (xoR k c).set 0 (.int v))))) := by
  have hl := (h.2.2.2.1 c (by rw [hc]; decide)).1
  refine ⟨?_, h.2.1, h.2.2.1, h.2.2.2.1, h.2.2.2.2⟩
  rw [h.1]
  funext q
  by_cases hq : q = c
  · subst hq
    rw [va_up_self]
    simp only [xF, xE]
    rw [if_neg (by omega), if_neg (by omega), if_neg (by omega), if_neg (by omega), if_neg (by omega), if_neg (by omega), if_neg (by omega), if_neg (by omega), if_neg (by omega), if_neg (by omega)]
    simp [xF, xE, xoU, xoP, xoA, xoC, xoR, xoS, kset, kptr, upd, va_up, hc]
  · simp [xF, xE, xoU, xoP, xoA, xoC, xoR, xoS, kset, kptr, upd, va_up, hq]
theorem xP_R1 {c : Nat} {v : Int32} (hc : k.2.2 c = 3) (n : Nat) (f : zF) (h : xR D S0 g k0 k n f) : xR D S0 g k0 (kset k 21 c v) n (va_up f c (some (.inr (3, (xoR k c).set 1 (.int v))))) := by
  have hl := (h.2.2.2.1 c (by rw [hc]; decide)).1
  refine ⟨?_, h.2.1, h.2.2.1, h.2.2.2.1, h.2.2.2.2⟩
  rw [h.1]
  funext q
  by_cases hq : q = c
  · subst hq
    rw [va_up_self]
    simp only [xF, xE]
    rw [if_neg (by omega), if_neg (by omega), if_neg (by omega), if_neg (by omega), if_neg (by omega), if_neg (by omega), if_neg (by omega), if_neg (by omega), if_neg (by omega), if_neg (by omega)]
    simp [xF, xE, xoU, xoP, xoA, xoC, xoR, xoS, kset, kptr, upd, va_up, hc]
  · simp [xF, xE, xoU, xoP, xoA, xoC, xoR, xoS, kset, kptr, upd, va_up, hq]
theorem xP_R3 {c : Nat} {v : Int32} (hc : k.2.2 c = 3) (n : Nat) (f : zF) (h : xR D S0 g k0 k n f) : xR D S0 g k0 (kset k 23 c v) n (va_up f c (some (.inr (3, (xoR k c).set 3 (.int v))))) := by
  have hl := (h.2.2.2.1 c (by rw [hc]; decide)).1
  refine ⟨?_, h.2.1, h.2.2.1, h.2.2.2.1, h.2.2.2.2⟩
  rw [h.1]
  funext q
  by_cases hq : q = c
  · subst hq
    rw [va_up_self]
    simp only [xF, xE]
    rw [if_neg (by omega), if_neg (by omega), if_neg (by omega), if_neg (by omega), if_neg (by omega), if_neg (by omega), if_neg (by omega), if_neg (by omega), if_neg (by omega), if_neg (by omega)]
    simp [xF, xE, xoU, xoP, xoA, xoC, xoR, xoS, kset, kptr, upd, va_up, hc]
  · simp [xF, xE, xoU, xoP, xoA, xoC, xoR, xoS, kset, kptr, upd, va_up, hq]
theorem xP_R4 {c : Nat} {v : Int32} (hc : k.2.2 c = 3) (n : Nat) (f : zF) (h : xR D S0 g k0 k n f) : xR D S0 g k0 (kset k 24 c v) n (va_up f c (some (.inr (3, (xoR k c).set 4 (.int v))))) := by
  have hl := (h.2.2.2.1 c (by rw [hc]; decide)).1
  refine ⟨?_, h.2.1, h.2.2.1, h.2.2.2.1, h.2.2.2.2⟩
  rw [h.1]
  funext q
  by_cases hq : q = c
  · subst hq
    rw [va_up_self]
    simp only [xF, xE]
    rw [if_neg (by omega), if_neg (by omega), if_neg (by omega), if_neg (by omega), if_neg (by omega), if_neg (by omega), if_neg (by omega), if_neg (by omega), if_neg (by omega), if_neg (by omega)]
    simp [xF, xE, xoU, xoP, xoA, xoC, xoR, xoS, kset, kptr, upd, va_up, hc]
  · simp [xF, xE, xoU, xoP, xoA, xoC, xoR, xoS, kset, kptr, upd, va_up, hq]
theorem xP_R5 {c : Nat} {v : Int32} (hc : k.2.2 c = 3) (n : Nat) (f : zF) (h : xR D S0 g k0 k n f) : xR D S0 g k0 (kset k 25 c v) n (va_up f c (some (.inr (3, (xoR k c).set 5 (.int v))))) := by
  have hl := (h.2.2.2.1 c (by rw [hc]; decide)).1
  refine ⟨?_, h.2.1, h.2.2.1, h.2.2.2.1, h.2.2.2.2⟩
  rw [h.1]
  funext q
  by_cases hq : q = c
  · subst hq
    rw [va_up_self]
    simp only [xF, xE]
    rw [if_neg (by omega), if_neg (by omega), if_neg (by omega), if_neg (by omega), if_neg (by omega), if_neg (by omega), if_neg (by omega), if_neg (by omega), if_neg (by omega), if_neg (by omega)]
    simp [xF, xE, xoU, xoP, xoA, xoC, xoR, xoS, kset, kptr, upd, va_up, hc]
  · simp [xF, xE, xoU, xoP, xoA, xoC, xoR, xoS, kset, kptr, upd, va_up, hq]
theorem xP_R6 {c : Nat} {v : Int32} (hc : k.2.2 c = 3) (n : Nat) (f : zF) (h : xR D S0 g k0 k n f) : xR D S0 g k0 (kset k 26 c v) n (va_up f c (some (.inr (3, (xoR k c).set 6 (.int v))))) := by
  have hl := (h.2.2.2.1 c (by rw [hc]; decide)).1
  refine ⟨?_, h.2.1, h.2.2.1, h.2.2.2.1, h.2.2.2.2⟩
  rw [h.1]
  funext q
  by_cases hq : q = c
  · subst hq
    rw [va_up_self]
    simp only [xF, xE]
    rw [if_neg (by omega), if_neg (by omega), if_neg (by omega), if_neg (by omega), if_neg (by omega), if_neg (by omega), if_neg (by omega), if_neg (by omega), if_neg (by omega), if_neg (by omega)]
    simp [xF, xE, xoU, xoP, xoA, xoC, xoR, xoS, kset, kptr, upd, va_up, hc]
  · simp [xF, xE, xoU, xoP, xoA, xoC, xoR, xoS, kset, kptr, upd, va_up, hq]
theorem xP_S0 {c : Nat} {v : Int32} (hc : k.2.2 c = 4) (n : Nat) (f : zF) (h : xR D S0 g k0 k n f) : xR D S0 g k0 (kset k 30 c v) n (va_up f c (some (.inr (4, (xoS k c).set 0 (.int v))))) := by
  have hl := (h.2.2.2.1 c (by rw [hc]; decide)).1
  refine ⟨?_, h.2.1, h.2.2.1, h.2.2.2.1, h.2.2.2.2⟩
  rw [h.1]
  funext q
  by_cases hq : q = c
  · subst hq
    rw [va_up_self]
    simp only [xF, xE]
    rw [if_neg (by omega), if_neg (by omega), if_neg (by omega), if_neg (by omega), if_neg (by omega), if_neg (by omega), if_neg (by omega), if_neg (by omega), if_neg (by omega), if_neg (by omega)]
    simp [xF, xE, xoU, xoP, xoA, xoC, xoR, xoS, kset, kptr, upd, va_up, hc]
  · simp [xF, xE, xoU, xoP, xoA, xoC, xoR, xoS, kset, kptr, upd, va_up, hq]
theorem xP_S1 {c : Nat} {v : Int32} (hc : k.2.2 c = 4) (n : Nat) (f : zF) (h : xR D S0 g k0 k n f) : xR D S0 g k0 (kset k 31 c v) n (va_up f c (some (.inr (4, (xoS k c).set 1 (.int v))))) := by
  have hl := (h.2.2.2.1 c (by rw [hc]; decide)).1
  refine ⟨?_, h.2.1, h.2.2.1, h.2.2.2.1, h.2.2.2.2⟩
  rw [h.1]
  funext q
  by_cases hq : q = c
  · subst hq
    rw [va_up_self]
    simp only [xF, xE]
    rw [if_neg (by omega), if_neg (by omega), if_neg (by omega), if_neg (by omega), if_neg (by omega), if_neg (by omega), if_neg (by omega), if_neg (by omega), if_neg (by omega), if_neg (by omega)]
    simp [xF, xE, xoU, xoP, xoA, xoC, xoR, xoS, kset, kptr, upd, va_up, hc]
  · simp [xF, xE, xoU, xoP, xoA, xoC, xoR, xoS, kset, kptr, upd, va_up, hq]
theorem xP_R2 {c : Nat} {v : Option Nat} (hc : k.2.2 c = 3) (hv : ∀ b, v = some b → k.2.2 b = 1) (n : Nat) (f : zF) (h : xR D S0 g k0 k n f) : xR D S0 g k0 (kptr k 22 c v) n (va_up f c (some (.inr (3, (xoR k c).set 2 (va_rf v))))) := by
  have hl := (h.2.2.2.1 c (by rw [hc]; decide)).1
  refine ⟨?_, h.2.1, ⟨h.2.2.1.1, h.2.2.1.2.1, h.2.2.1.2.2.1, ?_, h.2.2.1.2.2.2.2.1, h.2.2.1.2.2.2.2.2⟩, h.2.2.2.1, h.2.2.2.2⟩
  · rw [h.1]
    funext q
    by_cases hq : q = c
    · subst hq
      rw [va_up_self]
      simp only [xF, xE]
      rw [if_neg (by omega), if_neg (by omega), if_neg (by omega), if_neg (by omega), if_neg (by omega), if_neg (by omega), if_neg (by omega), if_neg (by omega), if_neg (by omega), if_neg (by omega)]
      simp [xF, xE, xoU, xoP, xoA, xoC, xoR, xoS, kset, kptr, upd, va_up, hc]
    · simp [xF, xE, xoU, xoP, xoA, xoC, xoR, xoS, kset, kptr, upd, va_up, hq]
  · intro j b hj1 hj
    have hj' : va_up (k.2.1 22) c v j = some b := hj
    by_cases hji : j = c
    · rw [hji, va_up_self] at hj'
      exact hv b hj'
    · rw [va_up_ne _ _ hji] at hj'
      exact h.2.2.1.2.2.2.1 j b hj1 hj'
theorem xP_S2 {c : Nat} {v : Option Nat} (hc : k.2.2 c = 4) (hv : ∀ b, v = some b → k.2.2 b = 1) (n : Nat) (f : zF) (h : xR D S0 g k0 k n f) : xR D S0 g k0 (kptr k 32 c v) n (va_up f c (some (.inr (4, (xoS k c).set 2 (va_rf v))))) := by
  have hl := (h.2.2.2.1 c (by rw [hc]; decide)).1
  refine ⟨?_, h.2.1, ⟨h.2.2.1.1, h.2.2.1.2.1, h.2.2.1.2.2.1, h.2.2.1.2.2.2.1, ?_, h.2.2.1.2.2.2.2.2⟩, h.2.2.2.1, h.2.2.2.2⟩
  · rw [h.1]
    funext q
    by_cases hq : q = c
    · subst hq
      rw [va_up_self]
      simp only [xF, xE]
      rw [if_neg (by omega), if_neg (by omega), if_neg (by omega), if_neg (by omega), if_neg (by omega), if_neg (by omega), if_neg (by omega), if_neg (by omega), if_neg (by omega), if_neg (by omega)]
      simp [xF, xE, xoU, xoP, xoA, xoC, xoR, xoS, kset, kptr, upd, va_up, hc]
    · simp [xF, xE, xoU, xoP, xoA, xoC, xoR, xoS, kset, kptr, upd, va_up, hq]
  · intro j b hj1 hj
    have hj' : va_up (k.2.1 32) c v j = some b := hj
    by_cases hji : j = c
    · rw [hji, va_up_self] at hj'
      exact hv b hj'
    · rw [va_up_ne _ _ hji] at hj'
      exact h.2.2.1.2.2.2.2.1 j b hj1 hj'
theorem xP_S3 {c : Nat} {v : Option Nat} (hc : k.2.2 c = 4) (hv : ∀ b, v = some b → k.2.2 b = 3) (n : Nat) (f : zF) (h : xR D S0 g k0 k n f) : xR D S0 g k0 (kptr k 33 c v) n (va_up f c (some (.inr (4, (xoS k c).set 3 (va_rf v))))) := by
  have hl := (h.2.2.2.1 c (by rw [hc]; decide)).1
  refine ⟨?_, h.2.1, ⟨h.2.2.1.1, h.2.2.1.2.1, h.2.2.1.2.2.1, h.2.2.1.2.2.2.1, h.2.2.1.2.2.2.2.1, ?_⟩, h.2.2.2.1, h.2.2.2.2⟩
  · rw [h.1]
    funext q
    by_cases hq : q = c
    · subst hq
      rw [va_up_self]
      simp only [xF, xE]
      rw [if_neg (by omega), if_neg (by omega), if_neg (by omega), if_neg (by omega), if_neg (by omega), if_neg (by omega), if_neg (by omega), if_neg (by omega), if_neg (by omega), if_neg (by omega)]
      simp [xF, xE, xoU, xoP, xoA, xoC, xoR, xoS, kset, kptr, upd, va_up, hc]
    · simp [xF, xE, xoU, xoP, xoA, xoC, xoR, xoS, kset, kptr, upd, va_up, hq]
  · intro j b hj1 hj
    have hj' : va_up (k.2.1 33) c v j = some b := hj
    by_cases hji : j = c
    · rw [hji, va_up_self] at hj'
      exact hv b hj'
    · rw [va_up_ne _ _ hji] at hj'
      exact h.2.2.1.2.2.2.2.2 j b hj1 hj'
theorem kT_new {q t : Nat} (h : kT k) (h0 : k.2.2 q = 0) : kT (knew k q t) := by
  have up : ∀ c, k.2.2 c ≠ 0 → (knew k q t).2.2 c = k.2.2 c := fun c hc => va_up_ne _ _ (fun e => hc (by rw [e]; exact h0))
  have hi : ∀ (a i c : Nat), 10 ≤ a → (knew k q t).2.1 a i = some c → i ≠ q ∧ k.2.1 a i = some c := by
    intro a i c ha hj
    simp only [knew, ha, if_true] at hj
    by_cases hji : i = q
    · rw [hji, va_up_self] at hj
      cases hj
    · rw [va_up_ne _ _ hji] at hj
      exact ⟨hji, hj⟩
  have kd : ∀ r, r ≠ q → (knew k q t).2.2 r = k.2.2 r := fun r hr => va_up_ne _ _ hr
  refine ⟨fun i c hj => ?_, fun i c hj => ?_, fun i c hj => ?_, fun i c hr hj => ?_, fun i c hr hj => ?_, fun i c hr hj => ?_⟩
  · have h2 := h.1 i c hj
    rw [up c (by rw [h2]; decide)]; exact h2
  · have h2 := h.2.1 i c hj
    rw [up c (by rw [h2]; decide)]; exact h2
  · have h2 := h.2.2.1 i c hj
    rw [up c (by rw [h2]; decide)]; exact h2
  · obtain ⟨n1, n2⟩ := hi 22 i c (by decide) hj
    have h2 := h.2.2.2.1 i c (by rw [← kd i n1]; exact hr) n2
    rw [up c (by rw [h2]; decide)]; exact h2
  · obtain ⟨n1, n2⟩ := hi 32 i c (by decide) hj
    have h2 := h.2.2.2.2.1 i c (by rw [← kd i n1]; exact hr) n2
    rw [up c (by rw [h2]; decide)]; exact h2
  · obtain ⟨n1, n2⟩ := hi 33 i c (by decide) hj
    have h2 := h.2.2.2.2.2 i c (by rw [← kd i n1]; exact hr) n2
    rw [up c (by rw [h2]; decide)]; exact h2
theorem kL_new {q t : Nat} (h : kL S0 k) (hq : S0 + 30 ≤ q) (ht : t = 1 ∨ t = 3 ∨ t = 4) : kL S0 (knew k q t) := by
  intro c hc
  by_cases hcq : c = q
  · subst hcq
    have e : (knew k c t).2.2 c = t := va_up_self _ _ _
    rw [e]
    exact ⟨hq, ht⟩
  · have e : (knew k q t).2.2 c = k.2.2 c := va_up_ne _ _ hcq
    rw [e] at hc ⊢
    exact h c hc
theorem kle_new {q t : Nat} (h : kle k0 k) (h0 : k.2.2 q = 0) : kle k0 (knew k q t) := by
  intro c hc
  have h1 := h c hc
  have hcq : c ≠ q := fun e => hc (by rw [← h1, e]; exact h0)
  exact (va_up_ne _ _ hcq).trans h1
theorem k_fresh {q n : Nat} {f : zF} (h : xR D S0 g k0 k n f) (hn : f q = none) : k.2.2 q = 0 := by
  by_cases h0 : k.2.2 q = 0
  · exact h0
  · rcases (h.2.2.2.1 q h0).2 with e | e | e
    · rw [xC_C e n f h] at hn; cases hn
    · rw [xC_R e n f h] at hn; cases hn
    · rw [xC_S e n f h] at hn; cases hn
theorem xN_C {q n : Nat} {f' : zF} (hq : S0 + 30 ≤ q) (h0 : k.2.2 q = 0) (h : ∃ f, xR D S0 g k0 k q f ∧ f q = none ∧ n = q + 1 ∧ f' = va_up f q (some (.inr (1, [.int 0, .int 0, .int 0, .int 0, .int 0, .int 0, .int 0, .int 0])))) : xR D S0 g k0 (knew k q 1) n f' := by
  obtain ⟨f, h, hn, rfl, rfl⟩ := h
  refine ⟨?_, by omega, kT_new h.2.2.1 h0, kL_new h.2.2.2.1 hq (by decide), kle_new h.2.2.2.2 h0⟩
  rw [h.1]
  funext a
  by_cases ha : a = q
  · subst ha
    rw [va_up_self]
    simp only [xF, xE]
    rw [if_neg (by omega), if_neg (by omega), if_neg (by omega), if_neg (by omega), if_neg (by omega), if_neg (by omega), if_neg (by omega), if_neg (by omega), if_neg (by omega), if_neg (by omega)]
    simp [xoC, knew, upd, va_up, va_rf]
  · simp [xF, xE, xoU, xoP, xoA, xoC, xoR, xoS, knew, upd, va_up, ha]
theorem xN_R {q n : Nat} {f' : zF} (hq : S0 + 30 ≤ q) (h0 : k.2.2 q = 0) (h : ∃ f, xR D S0 g k0 k q f ∧ f q = none ∧ n = q + 1 ∧ f' = va_up f q (some (.inr (3, [.int 0, .int 0, .null, .int 0, .int 0, .int 0, .int 0])))) : xR D S0 g k0 (knew k q 3) n f' := by
  obtain ⟨f, h, hn, rfl, rfl⟩ := h
  refine ⟨?_, by omega, kT_new h.2.2.1 h0, kL_new h.2.2.2.1 hq (by decide), kle_new h.2.2.2.2 h0⟩
  rw [h.1]
  funext a
  by_cases ha : a = q
  · subst ha
    rw [va_up_self]
    simp only [xF, xE]
    rw [if_neg (by omega), if_neg (by omega), if_neg (by omega), if_neg (by omega), if_neg (by omega), if_neg (by omega), if_neg (by omega), if_neg (by omega), if_neg (by omega), if_neg (by omega)]
    simp [xoR, knew, upd, va_up, va_rf]
  · simp [xF, xE, xoU, xoP, xoA, xoC, xoR, xoS, knew, upd, va_up, ha]
theorem xN_S {q n : Nat} {f' : zF} (hq : S0 + 30 ≤ q) (h0 : k.2.2 q = 0) (h : ∃ f, xR D S0 g k0 k q f ∧ f q = none ∧ n = q + 1 ∧ f' = va_up f q (some (.inr (4, [.int 0, .int 0, .null, .null])))) : xR D S0 g k0 (knew k q 4) n f' := by
  obtain ⟨f, h, hn, rfl, rfl⟩ := h
  refine ⟨?_, by omega, kT_new h.2.2.1 h0, kL_new h.2.2.2.1 hq (by decide), kle_new h.2.2.2.2 h0⟩
  rw [h.1]
  funext a
  by_cases ha : a = q
  · subst ha
    rw [va_up_self]
    simp only [xF, xE]
    rw [if_neg (by omega), if_neg (by omega), if_neg (by omega), if_neg (by omega), if_neg (by omega), if_neg (by omega), if_neg (by omega), if_neg (by omega), if_neg (by omega), if_neg (by omega)]
    simp [xoS, knew, upd, va_up, va_rf]
  · simp [xF, xE, xoU, xoP, xoA, xoC, xoR, xoS, knew, upd, va_up, ha]
end XW
/-! THE REFERENCE'S WORLD: m by (the field's place in the class, the index); a number's index is 0 -/
abbrev mS : Type := Nat → Nat → Int32
def mset (m : mS) (a i : Nat) (v : Int32) : mS := fun b => if b = a then upd (m b) i v else m b
def moM (S0 : Nat) (m : mS) : List Value := [.ref (S0 + 10), .ref (S0 + 11), .ref (S0 + 12), .ref (S0 + 13), .ref (S0 + 14), .ref (S0 + 15), .ref (S0 + 16), .int (m 7 0), .ref (S0 + 17), .ref (S0 + 18), .ref (S0 + 19), .ref (S0 + 20), .ref (S0 + 21), .ref (S0 + 22), .ref (S0 + 23), .int (m 15 0), .ref (S0 + 24), .ref (S0 + 25), .ref (S0 + 26), .int (m 19 0), .ref (S0 + 27), .ref (S0 + 28), .int (m 22 0), .int (m 23 0)]
def mE (D : zD) (S0 : Nat) (m : mS) : zF := fun q =>
  if q = S0 + 9 then some (.inr (6, moM S0 m))
  else if q = S0 + 10 then some (.inl (D.2.1, 20, .inl (m 0)))
  else if q = S0 + 11 then some (.inl (D.2.1, 20, .inl (m 1)))
  else if q = S0 + 12 then some (.inl (D.2.1, 20, .inl (m 2)))
  else if q = S0 + 13 then some (.inl (D.2.1, 20, .inl (m 3)))
  else if q = S0 + 14 then some (.inl (D.2.1, 20, .inl (m 4)))
  else if q = S0 + 15 then some (.inl (D.2.1, 20, .inl (m 5)))
  else if q = S0 + 16 then some (.inl (D.2.1, 20, .inl (m 6)))
  else if q = S0 + 17 then some (.inl (D.2.1, 40, .inl (m 8)))
  else if q = S0 + 18 then some (.inl (D.2.1, 40, .inl (m 9)))
  else if q = S0 + 19 then some (.inl (D.2.1, 40, .inl (m 10)))
  else if q = S0 + 20 then some (.inl (D.2.1, 40, .inl (m 11)))
  else if q = S0 + 21 then some (.inl (D.2.1, 40, .inl (m 12)))
  else if q = S0 + 22 then some (.inl (D.2.1, 40, .inl (m 13)))
  else if q = S0 + 23 then some (.inl (D.2.1, 40, .inl (m 14)))
  else if q = S0 + 24 then some (.inl (D.2.1, 4000, .inl (m 16)))
  else if q = S0 + 25 then some (.inl (D.2.1, 4000, .inl (m 17)))
  else if q = S0 + 26 then some (.inl (D.2.1, 4000, .inl (m 18)))
  else if q = S0 + 27 then some (.inl (D.2.1, 36, .inl (m 20)))
  else if q = S0 + 28 then some (.inl (D.2.1, 6, .inl (m 21)))
  else none
def mF (D : zD) (S0 : Nat) (g : zF) (m : mS) : zF := fun q => if S0 + 9 ≤ q ∧ q < S0 + 29 then mE D S0 m q else g q
def mR (D : zD) (S0 : Nat) (g : zF) (m : mS) (n : Nat) (f : zF) : Prop := f = mF D S0 g m ∧ S0 + 29 ≤ n
section MW
variable {D : zD} {S0 : Nat} {g : zF} {m : mS}
theorem mC_M (n : Nat) (f : zF) (h : mR D S0 g m n f) : f (S0 + 9) = some (.inr (6, moM S0 m)) := by
  rw [h.1]
  simp [mF, mE]
theorem mC_0 (n : Nat) (f : zF) (h : mR D S0 g m n f) : f (S0 + 10) = some (.inl (D.2.1, 20, .inl (m 0))) := by
  rw [h.1]
  simp [mF, mE]
theorem mC_1 (n : Nat) (f : zF) (h : mR D S0 g m n f) : f (S0 + 11) = some (.inl (D.2.1, 20, .inl (m 1))) := by
  rw [h.1]
  simp [mF, mE]
theorem mC_2 (n : Nat) (f : zF) (h : mR D S0 g m n f) : f (S0 + 12) = some (.inl (D.2.1, 20, .inl (m 2))) := by
  rw [h.1]
  simp [mF, mE]
theorem mC_3 (n : Nat) (f : zF) (h : mR D S0 g m n f) : f (S0 + 13) = some (.inl (D.2.1, 20, .inl (m 3))) := by
  rw [h.1]
  simp [mF, mE]
theorem mC_4 (n : Nat) (f : zF) (h : mR D S0 g m n f) : f (S0 + 14) = some (.inl (D.2.1, 20, .inl (m 4))) := by
  rw [h.1]
  simp [mF, mE]
theorem mC_5 (n : Nat) (f : zF) (h : mR D S0 g m n f) : f (S0 + 15) = some (.inl (D.2.1, 20, .inl (m 5))) := by
  rw [h.1]
  simp [mF, mE]
theorem mC_6 (n : Nat) (f : zF) (h : mR D S0 g m n f) : f (S0 + 16) = some (.inl (D.2.1, 20, .inl (m 6))) := by
  rw [h.1]
  simp [mF, mE]
theorem mC_8 (n : Nat) (f : zF) (h : mR D S0 g m n f) : f (S0 + 17) = some (.inl (D.2.1, 40, .inl (m 8))) := by
  rw [h.1]
  simp [mF, mE]
theorem mC_9 (n : Nat) (f : zF) (h : mR D S0 g m n f) : f (S0 + 18) = some (.inl (D.2.1, 40, .inl (m 9))) := by
  rw [h.1]
  simp [mF, mE]
theorem mC_10 (n : Nat) (f : zF) (h : mR D S0 g m n f) : f (S0 + 19) = some (.inl (D.2.1, 40, .inl (m 10))) := by
  rw [h.1]
  simp [mF, mE]
theorem mC_11 (n : Nat) (f : zF) (h : mR D S0 g m n f) : f (S0 + 20) = some (.inl (D.2.1, 40, .inl (m 11))) := by
  rw [h.1]
  simp [mF, mE]
theorem mC_12 (n : Nat) (f : zF) (h : mR D S0 g m n f) : f (S0 + 21) = some (.inl (D.2.1, 40, .inl (m 12))) := by
  rw [h.1]
  simp [mF, mE]
theorem mC_13 (n : Nat) (f : zF) (h : mR D S0 g m n f) : f (S0 + 22) = some (.inl (D.2.1, 40, .inl (m 13))) := by
  rw [h.1]
  simp [mF, mE]
theorem mC_14 (n : Nat) (f : zF) (h : mR D S0 g m n f) : f (S0 + 23) = some (.inl (D.2.1, 40, .inl (m 14))) := by
  rw [h.1]
  simp [mF, mE]
theorem mC_16 (n : Nat) (f : zF) (h : mR D S0 g m n f) : f (S0 + 24) = some (.inl (D.2.1, 4000, .inl (m 16))) := by
  rw [h.1]
  simp [mF, mE]
theorem mC_17 (n : Nat) (f : zF) (h : mR D S0 g m n f) : f (S0 + 25) = some (.inl (D.2.1, 4000, .inl (m 17))) := by
  rw [h.1]
  simp [mF, mE]
theorem mC_18 (n : Nat) (f : zF) (h : mR D S0 g m n f) : f (S0 + 26) = some (.inl (D.2.1, 4000, .inl (m 18))) := by
  rw [h.1]
  simp [mF, mE]
theorem mC_20 (n : Nat) (f : zF) (h : mR D S0 g m n f) : f (S0 + 27) = some (.inl (D.2.1, 36, .inl (m 20))) := by
  rw [h.1]
  simp [mF, mE]
theorem mC_21 (n : Nat) (f : zF) (h : mR D S0 g m n f) : f (S0 + 28) = some (.inl (D.2.1, 6, .inl (m 21))) := by
  rw [h.1]
  simp [mF, mE]
theorem mP_0 {i : Nat} {v : Int32} (n : Nat) (f : zF) (h : mR D S0 g m n f) : mR D S0 g (mset m 0 i v) n (va_up f (S0 + 10) (some (.inl (D.2.1, 20, .inl (upd (m 0) i v))))) := by
  refine ⟨?_, h.2⟩
  rw [h.1]
  funext q
  by_cases hq : q = S0 + 10
  · subst hq
    simp [mF, mE, mset, va_up]
  · simp [mF, mE, moM, mset, va_up, hq]
theorem mP_1 {i : Nat} {v : Int32} (n : Nat) (f : zF) (h : mR D S0 g m n f) : mR D S0 g (mset m 1 i v) n (va_up f (S0 + 11) (some (.inl (D.2.1, 20, .inl (upd (m 1) i v))))) := by
  refine ⟨?_, h.2⟩
  rw [h.1]
  funext q
  by_cases hq : q = S0 + 11
  · subst hq
    simp [mF, mE, mset, va_up]
  · simp [mF, mE, moM, mset, va_up, hq]
theorem mP_2 {i : Nat} {v : Int32} (n : Nat) (f : zF) (h : mR D S0 g m n f) : mR D S0 g (mset m 2 i v) n (va_up f (S0 + 12) (some (.inl (D.2.1, 20, .inl (upd (m 2) i v))))) := by
  refine ⟨?_, h.2⟩
  rw [h.1]
  funext q
  by_cases hq : q = S0 + 12
  · subst hq
    simp [mF, mE, mset, va_up]
  · simp [mF, mE, moM, mset, va_up, hq]
theorem mP_3 {i : Nat} {v : Int32} (n : Nat) (f : zF) (h : mR D S0 g m n f) : mR D S0 g (mset m 3 i v) n (va_up f (S0 + 13) (some (.inl (D.2.1, 20, .inl (upd (m 3) i v))))) := by
  refine ⟨?_, h.2⟩
  rw [h.1]
  funext q
  by_cases hq : q = S0 + 13
  · subst hq
    simp [mF, mE, mset, va_up]
  · simp [mF, mE, moM, mset, va_up, hq]
theorem mP_4 {i : Nat} {v : Int32} (n : Nat) (f : zF) (h : mR D S0 g m n f) : mR D S0 g (mset m 4 i v) n (va_up f (S0 + 14) (some (.inl (D.2.1, 20, .inl (upd (m 4) i v))))) := by
  refine ⟨?_, h.2⟩
  rw [h.1]
  funext q
  by_cases hq : q = S0 + 14
  · subst hq
    simp [mF, mE, mset, va_up]
  · simp [mF, mE, moM, mset, va_up, hq]
theorem mP_5 {i : Nat} {v : Int32} (n : Nat) (f : zF) (h : mR D S0 g m n f) : mR D S0 g (mset m 5 i v) n (va_up f (S0 + 15) (some (.inl (D.2.1, 20, .inl (upd (m 5) i v))))) := by
  refine ⟨?_, h.2⟩
  rw [h.1]
  funext q
  by_cases hq : q = S0 + 15
  · subst hq
    simp [mF, mE, mset, va_up]
  · simp [mF, mE, moM, mset, va_up, hq]
theorem mP_6 {i : Nat} {v : Int32} (n : Nat) (f : zF) (h : mR D S0 g m n f) : mR D S0 g (mset m 6 i v) n (va_up f (S0 + 16) (some (.inl (D.2.1, 20, .inl (upd (m 6) i v))))) := by
  refine ⟨?_, h.2⟩
  rw [h.1]
  funext q
  by_cases hq : q = S0 + 16
  · subst hq
    simp [mF, mE, mset, va_up]
  · simp [mF, mE, moM, mset, va_up, hq]
theorem mP_8 {i : Nat} {v : Int32} (n : Nat) (f : zF) (h : mR D S0 g m n f) : mR D S0 g (mset m 8 i v) n (va_up f (S0 + 17) (some (.inl (D.2.1, 40, .inl (upd (m 8) i v))))) := by
  refine ⟨?_, h.2⟩
  rw [h.1]
  funext q
  by_cases hq : q = S0 + 17
  · subst hq
    simp [mF, mE, mset, va_up]
  · simp [mF, mE, moM, mset, va_up, hq]
theorem mP_9 {i : Nat} {v : Int32} (n : Nat) (f : zF) (h : mR D S0 g m n f) : mR D S0 g (mset m 9 i v) n (va_up f (S0 + 18) (some (.inl (D.2.1, 40, .inl (upd (m 9) i v))))) := by
  refine ⟨?_, h.2⟩
  rw [h.1]
  funext q
  by_cases hq : q = S0 + 18
  · subst hq
    simp [mF, mE, mset, va_up]
  · simp [mF, mE, moM, mset, va_up, hq]
theorem mP_10 {i : Nat} {v : Int32} (n : Nat) (f : zF) (h : mR D S0 g m n f) : mR D S0 g (mset m 10 i v) n (va_up f (S0 + 19) (some (.inl (D.2.1, 40, .inl (upd (m 10) i v))))) := by
  refine ⟨?_, h.2⟩
  rw [h.1]
  funext q
  by_cases hq : q = S0 + 19
  · subst hq
    simp [mF, mE, mset, va_up]
  · simp [mF, mE, moM, mset, va_up, hq]
theorem mP_11 {i : Nat} {v : Int32} (n : Nat) (f : zF) (h : mR D S0 g m n f) : mR D S0 g (mset m 11 i v) n (va_up f (S0 + 20) (some (.inl (D.2.1, 40, .inl (upd (m 11) i v))))) := by
  refine ⟨?_, h.2⟩
  rw [h.1]
  funext q
  by_cases hq : q = S0 + 20
  · subst hq
    simp [mF, mE, mset, va_up]
  · simp [mF, mE, moM, mset, va_up, hq]
theorem mP_12 {i : Nat} {v : Int32} (n : Nat) (f : zF) (h : mR D S0 g m n f) : mR D S0 g (mset m 12 i v) n (va_up f (S0 + 21) (some (.inl (D.2.1, 40, .inl (upd (m 12) i v))))) := by
  refine ⟨?_, h.2⟩
  rw [h.1]
  funext q
  by_cases hq : q = S0 + 21
  · subst hq
    simp [mF, mE, mset, va_up]
  · simp [mF, mE, moM, mset, va_up, hq]
theorem mP_13 {i : Nat} {v : Int32} (n : Nat) (f : zF) (h : mR D S0 g m n f) : mR D S0 g (mset m 13 i v) n (va_up f (S0 + 22) (some (.inl (D.2.1, 40, .inl (upd (m 13) i v))))) := by
  refine ⟨?_, h.2⟩
  rw [h.1]
  funext q
  by_cases hq : q = S0 + 22
  · subst hq
    simp [mF, mE, mset, va_up]
  · simp [mF, mE, moM, mset, va_up, hq]
theorem mP_14 {i : Nat} {v : Int32} (n : Nat) (f : zF) (h : mR D S0 g m n f) : mR D S0 g (mset m 14 i v) n (va_up f (S0 + 23) (some (.inl (D.2.1, 40, .inl (upd (m 14) i v))))) := by
  refine ⟨?_, h.2⟩
  rw [h.1]
  funext q
  by_cases hq : q = S0 + 23
  · subst hq
    simp [mF, mE, mset, va_up]
  · simp [mF, mE, moM, mset, va_up, hq]
theorem mP_16 {i : Nat} {v : Int32} (n : Nat) (f : zF) (h : mR D S0 g m n f) : mR D S0 g (mset m 16 i v) n (va_up f (S0 + 24) (some (.inl (D.2.1, 4000, .inl (upd (m 16) i v))))) := by
  refine ⟨?_, h.2⟩
  rw [h.1]
  funext q
  by_cases hq : q = S0 + 24
  · subst hq
    simp [mF, mE, mset, va_up]
  · simp [mF, mE, moM, mset, va_up, hq]
theorem mP_17 {i : Nat} {v : Int32} (n : Nat) (f : zF) (h : mR D S0 g m n f) : mR D S0 g (mset m 17 i v) n (va_up f (S0 + 25) (some (.inl (D.2.1, 4000, .inl (upd (m 17) i v))))) := by
  refine ⟨?_, h.2⟩
  rw [h.1]
  funext q
  by_cases hq : q = S0 + 25
  · subst hq
    simp [mF, mE, mset, va_up]
  · simp [mF, mE, moM, mset, va_up, hq]
theorem mP_18 {i : Nat} {v : Int32} (n : Nat) (f : zF) (h : mR D S0 g m n f) : mR D S0 g (mset m 18 i v) n (va_up f (S0 + 26) (some (.inl (D.2.1, 4000, .inl (upd (m 18) i v))))) := by
  refine ⟨?_, h.2⟩
  rw [h.1]
  funext q
  by_cases hq : q = S0 + 26
  · subst hq
    simp [mF, mE, mset, va_up]
  · simp [mF, mE, moM, mset, va_up, hq]
theorem mP_20 {i : Nat} {v : Int32} (n : Nat) (f : zF) (h : mR D S0 g m n f) : mR D S0 g (mset m 20 i v) n (va_up f (S0 + 27) (some (.inl (D.2.1, 36, .inl (upd (m 20) i v))))) := by
  refine ⟨?_, h.2⟩
  rw [h.1]
  funext q
  by_cases hq : q = S0 + 27
  · subst hq
    simp [mF, mE, mset, va_up]
  · simp [mF, mE, moM, mset, va_up, hq]
theorem mP_21 {i : Nat} {v : Int32} (n : Nat) (f : zF) (h : mR D S0 g m n f) : mR D S0 g (mset m 21 i v) n (va_up f (S0 + 28) (some (.inl (D.2.1, 6, .inl (upd (m 21) i v))))) := by
  refine ⟨?_, h.2⟩
  rw [h.1]
  funext q
  by_cases hq : q = S0 + 28
  · subst hq
    simp [mF, mE, mset, va_up]
  · simp [mF, mE, moM, mset, va_up, hq]
theorem mP_7 {v : Int32} (n : Nat) (f : zF) (h : mR D S0 g m n f) : mR D S0 g (mset m 7 0 v) n (va_up f (S0 + 9) (some (.inr (6, (moM S0 m).set 7 (.int v))))) := by
  refine ⟨?_, h.2⟩
  rw [h.1]
  funext q
  by_cases hq : q = S0 + 9
  · subst hq
    simp [mF, mE, moM, mset, upd, va_up]
  · simp [mF, mE, moM, mset, upd, va_up, hq]
theorem mP_15 {v : Int32} (n : Nat) (f : zF) (h : mR D S0 g m n f) : mR D S0 g (mset m 15 0 v) n (va_up f (S0 + 9) (some (.inr (6, (moM S0 m).set 15 (.int v))))) := by
  refine ⟨?_, h.2⟩
  rw [h.1]
  funext q
  by_cases hq : q = S0 + 9
  · subst hq
    simp [mF, mE, moM, mset, upd, va_up]
  · simp [mF, mE, moM, mset, upd, va_up, hq]
theorem mP_19 {v : Int32} (n : Nat) (f : zF) (h : mR D S0 g m n f) : mR D S0 g (mset m 19 0 v) n (va_up f (S0 + 9) (some (.inr (6, (moM S0 m).set 19 (.int v))))) := by
  refine ⟨?_, h.2⟩
  rw [h.1]
  funext q
  by_cases hq : q = S0 + 9
  · subst hq
    simp [mF, mE, moM, mset, upd, va_up]
  · simp [mF, mE, moM, mset, upd, va_up, hq]
theorem mP_22 {v : Int32} (n : Nat) (f : zF) (h : mR D S0 g m n f) : mR D S0 g (mset m 22 0 v) n (va_up f (S0 + 9) (some (.inr (6, (moM S0 m).set 22 (.int v))))) := by
  refine ⟨?_, h.2⟩
  rw [h.1]
  funext q
  by_cases hq : q = S0 + 9
  · subst hq
    simp [mF, mE, moM, mset, upd, va_up]
  · simp [mF, mE, moM, mset, upd, va_up, hq]
theorem mP_23 {v : Int32} (n : Nat) (f : zF) (h : mR D S0 g m n f) : mR D S0 g (mset m 23 0 v) n (va_up f (S0 + 9) (some (.inr (6, (moM S0 m).set 23 (.int v))))) := by
  refine ⟨?_, h.2⟩
  rw [h.1]
  funext q
  by_cases hq : q = S0 + 9
  · subst hq
    simp [mF, mE, moM, mset, upd, va_up]
  · simp [mF, mE, moM, mset, upd, va_up, hq]
end MW
end
