section
-- ===== PART A: goes FIRST, ahead of the names: the tables' words, and 'selects' of the private methods out of them =====
/-- a private method of a class that the tables say can be made, by its rows of tables_1 -/
def lw_okq (q : MethodName × Nat) : Prop := (q.1.cls ≠ "java/lang/invoke/MethodHandle" ∧ q.1.cls ≠ "java/lang/invoke/VarHandle") ∧ Cond.instantiable q.1.cls q.2 ∈ tables_1 ∧ Cond.privateMethod q.1 ∈ tables_1 ∧ Cond.instanceMethod q.1 ∈ tables_1
theorem lw_p0 : lw_okq (⟨"java/lang/Throwable", "fillInStackTrace", "(I)Ljava/lang/Throwable;"⟩, 6) := ⟨⟨by decide +kernel, by decide +kernel⟩, List.mem_of_getElem? (i := 238) (by decide +kernel), List.mem_of_getElem? (i := 236) (by decide +kernel), List.mem_of_getElem? (i := 237) (by decide +kernel)⟩
theorem lw_p1 : lw_okq (⟨"CashAllocator", "payNamedBills", "(II)V"⟩, 4) := ⟨⟨by decide +kernel, by decide +kernel⟩, List.mem_of_getElem? (i := 13) (by decide +kernel), List.mem_of_getElem? (i := 324) (by decide +kernel), List.mem_of_getElem? (i := 325) (by decide +kernel)⟩
theorem lw_p2 : lw_okq (⟨"CashAllocator", "payBill", "(II)Z"⟩, 4) := ⟨⟨by decide +kernel, by decide +kernel⟩, List.mem_of_getElem? (i := 13) (by decide +kernel), List.mem_of_getElem? (i := 340) (by decide +kernel), List.mem_of_getElem? (i := 341) (by decide +kernel)⟩
theorem lw_p3 : lw_okq (⟨"CashAllocator", "payOtherBills", "(I)V"⟩, 4) := ⟨⟨by decide +kernel, by decide +kernel⟩, List.mem_of_getElem? (i := 13) (by decide +kernel), List.mem_of_getElem? (i := 367) (by decide +kernel), List.mem_of_getElem? (i := 368) (by decide +kernel)⟩
theorem lw_p4 : lw_okq (⟨"CashAllocator", "payExactSet", "(I)V"⟩, 4) := ⟨⟨by decide +kernel, by decide +kernel⟩, List.mem_of_getElem? (i := 13) (by decide +kernel), List.mem_of_getElem? (i := 371) (by decide +kernel), List.mem_of_getElem? (i := 372) (by decide +kernel)⟩
theorem lw_p5 : lw_okq (⟨"CashAllocator", "chooseExactSet", "(II)V"⟩, 4) := ⟨⟨by decide +kernel, by decide +kernel⟩, List.mem_of_getElem? (i := 13) (by decide +kernel), List.mem_of_getElem? (i := 375) (by decide +kernel), List.mem_of_getElem? (i := 376) (by decide +kernel)⟩
theorem lw_p6 : lw_okq (⟨"CashAllocator$ExactSet", "chooseOne", "(I)Z"⟩, 4) := ⟨⟨by decide +kernel, by decide +kernel⟩, List.mem_of_getElem? (i := 114) (by decide +kernel), List.mem_of_getElem? (i := 391) (by decide +kernel), List.mem_of_getElem? (i := 392) (by decide +kernel)⟩
theorem lw_p7 : lw_okq (⟨"CashAllocator$ExactSet", "find", "(II)I"⟩, 4) := ⟨⟨by decide +kernel, by decide +kernel⟩, List.mem_of_getElem? (i := 114) (by decide +kernel), List.mem_of_getElem? (i := 395) (by decide +kernel), List.mem_of_getElem? (i := 396) (by decide +kernel)⟩
theorem lw_p8 : lw_okq (⟨"CashAllocator$ExactSet", "chooseTwo", "(I)Z"⟩, 4) := ⟨⟨by decide +kernel, by decide +kernel⟩, List.mem_of_getElem? (i := 114) (by decide +kernel), List.mem_of_getElem? (i := 399) (by decide +kernel), List.mem_of_getElem? (i := 400) (by decide +kernel)⟩
theorem lw_p9 : lw_okq (⟨"CashAllocator$ExactSet", "chooseThree", "(I)V"⟩, 4) := ⟨⟨by decide +kernel, by decide +kernel⟩, List.mem_of_getElem? (i := 114) (by decide +kernel), List.mem_of_getElem? (i := 403) (by decide +kernel), List.mem_of_getElem? (i := 404) (by decide +kernel)⟩
theorem lw_p10 : lw_okq (⟨"CashAllocator", "payOldestBills", "(I)V"⟩, 4) := ⟨⟨by decide +kernel, by decide +kernel⟩, List.mem_of_getElem? (i := 13) (by decide +kernel), List.mem_of_getElem? (i := 407) (by decide +kernel), List.mem_of_getElem? (i := 408) (by decide +kernel)⟩
theorem lw_p11 : lw_okq (⟨"CashAllocator", "requireReceipt", "(I)V"⟩, 4) := ⟨⟨by decide +kernel, by decide +kernel⟩, List.mem_of_getElem? (i := 13) (by decide +kernel), List.mem_of_getElem? (i := 418) (by decide +kernel), List.mem_of_getElem? (i := 419) (by decide +kernel)⟩
theorem lw_p12 : lw_okq (⟨"CashAllocator", "requireNotBounced", "(I)V"⟩, 4) := ⟨⟨by decide +kernel, by decide +kernel⟩, List.mem_of_getElem? (i := 13) (by decide +kernel), List.mem_of_getElem? (i := 423) (by decide +kernel), List.mem_of_getElem? (i := 424) (by decide +kernel)⟩
theorem lw_p13 : lw_okq (⟨"CashAllocator", "requireBill", "(I)V"⟩, 4) := ⟨⟨by decide +kernel, by decide +kernel⟩, List.mem_of_getElem? (i := 13) (by decide +kernel), List.mem_of_getElem? (i := 488) (by decide +kernel), List.mem_of_getElem? (i := 489) (by decide +kernel)⟩
theorem lw_p14 : lw_okq (⟨"CashAllocatorModel", "refused", "(I)Z"⟩, 24) := ⟨⟨by decide +kernel, by decide +kernel⟩, List.mem_of_getElem? (i := 589) (by decide +kernel), List.mem_of_getElem? (i := 683) (by decide +kernel), List.mem_of_getElem? (i := 684) (by decide +kernel)⟩
theorem lw_p15 : lw_okq (⟨"CashAllocatorModel", "payNamed", "(II)V"⟩, 24) := ⟨⟨by decide +kernel, by decide +kernel⟩, List.mem_of_getElem? (i := 589) (by decide +kernel), List.mem_of_getElem? (i := 691) (by decide +kernel), List.mem_of_getElem? (i := 692) (by decide +kernel)⟩
def lw_privs_1 : List (MethodName × Nat) := [(⟨"java/lang/Throwable", "fillInStackTrace", "(I)Ljava/lang/Throwable;"⟩, 6), (⟨"CashAllocator", "payNamedBills", "(II)V"⟩, 4), (⟨"CashAllocator", "payBill", "(II)Z"⟩, 4), (⟨"CashAllocator", "payOtherBills", "(I)V"⟩, 4), (⟨"CashAllocator", "payExactSet", "(I)V"⟩, 4), (⟨"CashAllocator", "chooseExactSet", "(II)V"⟩, 4), (⟨"CashAllocator$ExactSet", "chooseOne", "(I)Z"⟩, 4), (⟨"CashAllocator$ExactSet", "find", "(II)I"⟩, 4), (⟨"CashAllocator$ExactSet", "chooseTwo", "(I)Z"⟩, 4), (⟨"CashAllocator$ExactSet", "chooseThree", "(I)V"⟩, 4), (⟨"CashAllocator", "payOldestBills", "(I)V"⟩, 4), (⟨"CashAllocator", "requireReceipt", "(I)V"⟩, 4), (⟨"CashAllocator", "requireNotBounced", "(I)V"⟩, 4), (⟨"CashAllocator", "requireBill", "(I)V"⟩, 4), (⟨"CashAllocatorModel", "refused", "(I)Z"⟩, 24), (⟨"CashAllocatorModel", "payNamed", "(II)V"⟩, 24)]
theorem lw_r1 : ∀ q ∈ lw_privs_1, lw_okq q := List.forall_mem_cons.mpr ⟨lw_p0, List.forall_mem_cons.mpr ⟨lw_p1, List.forall_mem_cons.mpr ⟨lw_p2, List.forall_mem_cons.mpr ⟨lw_p3, List.forall_mem_cons.mpr ⟨lw_p4, List.forall_mem_cons.mpr ⟨lw_p5, List.forall_mem_cons.mpr ⟨lw_p6, List.forall_mem_cons.mpr ⟨lw_p7, List.forall_mem_cons.mpr ⟨lw_p8, List.forall_mem_cons.mpr ⟨lw_p9, List.forall_mem_cons.mpr ⟨lw_p10, List.forall_mem_cons.mpr ⟨lw_p11, List.forall_mem_cons.mpr ⟨lw_p12, List.forall_mem_cons.mpr ⟨lw_p13, List.forall_mem_cons.mpr ⟨lw_p14, List.forall_mem_cons.mpr ⟨lw_p15, fun _ h => absurd h List.not_mem_nil⟩⟩⟩⟩⟩⟩⟩⟩⟩⟩⟩⟩⟩⟩⟩⟩
theorem lw_p16 : lw_okq (⟨"CashAllocatorModel", "openNow", "(I)I"⟩, 24) := ⟨⟨by decide +kernel, by decide +kernel⟩, List.mem_of_getElem? (i := 589) (by decide +kernel), List.mem_of_getElem? (i := 695) (by decide +kernel), List.mem_of_getElem? (i := 696) (by decide +kernel)⟩
theorem lw_p17 : lw_okq (⟨"CashAllocatorModel", "pay", "(II)Z"⟩, 24) := ⟨⟨by decide +kernel, by decide +kernel⟩, List.mem_of_getElem? (i := 589) (by decide +kernel), List.mem_of_getElem? (i := 699) (by decide +kernel), List.mem_of_getElem? (i := 700) (by decide +kernel)⟩
theorem lw_p18 : lw_okq (⟨"CashAllocatorModel", "dueNow", "(I)I"⟩, 24) := ⟨⟨by decide +kernel, by decide +kernel⟩, List.mem_of_getElem? (i := 589) (by decide +kernel), List.mem_of_getElem? (i := 703) (by decide +kernel), List.mem_of_getElem? (i := 704) (by decide +kernel)⟩
theorem lw_p19 : lw_okq (⟨"CashAllocatorModel", "discount", "(I)I"⟩, 24) := ⟨⟨by decide +kernel, by decide +kernel⟩, List.mem_of_getElem? (i := 589) (by decide +kernel), List.mem_of_getElem? (i := 707) (by decide +kernel), List.mem_of_getElem? (i := 708) (by decide +kernel)⟩
theorem lw_p20 : lw_okq (⟨"CashAllocatorModel", "dispute", "(II)V"⟩, 24) := ⟨⟨by decide +kernel, by decide +kernel⟩, List.mem_of_getElem? (i := 589) (by decide +kernel), List.mem_of_getElem? (i := 712) (by decide +kernel), List.mem_of_getElem? (i := 713) (by decide +kernel)⟩
theorem lw_p21 : lw_okq (⟨"CashAllocatorModel", "payOthers", "(I)V"⟩, 24) := ⟨⟨by decide +kernel, by decide +kernel⟩, List.mem_of_getElem? (i := 589) (by decide +kernel), List.mem_of_getElem? (i := 716) (by decide +kernel), List.mem_of_getElem? (i := 717) (by decide +kernel)⟩
theorem lw_p22 : lw_okq (⟨"CashAllocatorModel", "choose", "(IJ)I"⟩, 24) := ⟨⟨by decide +kernel, by decide +kernel⟩, List.mem_of_getElem? (i := 589) (by decide +kernel), List.mem_of_getElem? (i := 720) (by decide +kernel), List.mem_of_getElem? (i := 721) (by decide +kernel)⟩
theorem lw_p23 : lw_okq (⟨"CashAllocatorModel", "dueOf", "(II)I"⟩, 24) := ⟨⟨by decide +kernel, by decide +kernel⟩, List.mem_of_getElem? (i := 589) (by decide +kernel), List.mem_of_getElem? (i := 724) (by decide +kernel), List.mem_of_getElem? (i := 725) (by decide +kernel)⟩
theorem lw_p24 : lw_okq (⟨"CashAllocatorModel", "isBill", "(I)Z"⟩, 24) := ⟨⟨by decide +kernel, by decide +kernel⟩, List.mem_of_getElem? (i := 589) (by decide +kernel), List.mem_of_getElem? (i := 728) (by decide +kernel), List.mem_of_getElem? (i := 729) (by decide +kernel)⟩
theorem lw_p25 : lw_okq (⟨"CashAllocatorModel", "isReceipt", "(I)Z"⟩, 24) := ⟨⟨by decide +kernel, by decide +kernel⟩, List.mem_of_getElem? (i := 589) (by decide +kernel), List.mem_of_getElem? (i := 736) (by decide +kernel), List.mem_of_getElem? (i := 737) (by decide +kernel)⟩
theorem lw_p26 : lw_okq (⟨"CashAllocatorModel", "fine", "(I)I"⟩, 24) := ⟨⟨by decide +kernel, by decide +kernel⟩, List.mem_of_getElem? (i := 589) (by decide +kernel), List.mem_of_getElem? (i := 764) (by decide +kernel), List.mem_of_getElem? (i := 765) (by decide +kernel)⟩
theorem lw_p27 : lw_okq (⟨"CashAllocatorModel", "noBill", "(I)Z"⟩, 24) := ⟨⟨by decide +kernel, by decide +kernel⟩, List.mem_of_getElem? (i := 589) (by decide +kernel), List.mem_of_getElem? (i := 772) (by decide +kernel), List.mem_of_getElem? (i := 773) (by decide +kernel)⟩
theorem lw_p28 : lw_okq (⟨"CashAllocatorModel", "noReceipt", "(I)Z"⟩, 24) := ⟨⟨by decide +kernel, by decide +kernel⟩, List.mem_of_getElem? (i := 589) (by decide +kernel), List.mem_of_getElem? (i := 812) (by decide +kernel), List.mem_of_getElem? (i := 813) (by decide +kernel)⟩
theorem lw_p29 : lw_okq (⟨"CashAllocatorModel", "all", "([I)I"⟩, 24) := ⟨⟨by decide +kernel, by decide +kernel⟩, List.mem_of_getElem? (i := 589) (by decide +kernel), List.mem_of_getElem? (i := 836) (by decide +kernel), List.mem_of_getElem? (i := 837) (by decide +kernel)⟩
theorem lw_p30 : lw_okq (⟨"CashAllocatorModel", "allBounced", "()I"⟩, 24) := ⟨⟨by decide +kernel, by decide +kernel⟩, List.mem_of_getElem? (i := 589) (by decide +kernel), List.mem_of_getElem? (i := 844) (by decide +kernel), List.mem_of_getElem? (i := 845) (by decide +kernel)⟩
def lw_privs_2 : List (MethodName × Nat) := [(⟨"CashAllocatorModel", "openNow", "(I)I"⟩, 24), (⟨"CashAllocatorModel", "pay", "(II)Z"⟩, 24), (⟨"CashAllocatorModel", "dueNow", "(I)I"⟩, 24), (⟨"CashAllocatorModel", "discount", "(I)I"⟩, 24), (⟨"CashAllocatorModel", "dispute", "(II)V"⟩, 24), (⟨"CashAllocatorModel", "payOthers", "(I)V"⟩, 24), (⟨"CashAllocatorModel", "choose", "(IJ)I"⟩, 24), (⟨"CashAllocatorModel", "dueOf", "(II)I"⟩, 24), (⟨"CashAllocatorModel", "isBill", "(I)Z"⟩, 24), (⟨"CashAllocatorModel", "isReceipt", "(I)Z"⟩, 24), (⟨"CashAllocatorModel", "fine", "(I)I"⟩, 24), (⟨"CashAllocatorModel", "noBill", "(I)Z"⟩, 24), (⟨"CashAllocatorModel", "noReceipt", "(I)Z"⟩, 24), (⟨"CashAllocatorModel", "all", "([I)I"⟩, 24), (⟨"CashAllocatorModel", "allBounced", "()I"⟩, 24)]
theorem lw_r2 : ∀ q ∈ lw_privs_2, lw_okq q := List.forall_mem_cons.mpr ⟨lw_p16, List.forall_mem_cons.mpr ⟨lw_p17, List.forall_mem_cons.mpr ⟨lw_p18, List.forall_mem_cons.mpr ⟨lw_p19, List.forall_mem_cons.mpr ⟨lw_p20, List.forall_mem_cons.mpr ⟨lw_p21, List.forall_mem_cons.mpr ⟨lw_p22, List.forall_mem_cons.mpr ⟨lw_p23, List.forall_mem_cons.mpr ⟨lw_p24, List.forall_mem_cons.mpr ⟨lw_p25, List.forall_mem_cons.mpr ⟨lw_p26, List.forall_mem_cons.mpr ⟨lw_p27, List.forall_mem_cons.mpr ⟨lw_p28, List.forall_mem_cons.mpr ⟨lw_p29, List.forall_mem_cons.mpr ⟨lw_p30, fun _ h => absurd h List.not_mem_nil⟩⟩⟩⟩⟩⟩⟩⟩⟩⟩⟩⟩⟩⟩⟩
def lw_privs : List (MethodName × Nat) := lw_privs_1 ++ (lw_privs_2)
def lw_tbl : List Cond := k2_sels lw_privs ++ tables_1
theorem lw_privs_ok : ∀ q ∈ lw_privs, lw_okq q := by
  show ∀ q ∈ lw_privs_1 ++ (lw_privs_2), lw_okq q
  exact List.forall_mem_append.mpr ⟨lw_r1, lw_r2⟩
end
section
/-! ===== BEGIN words of one list among another's, by their places ===== -/
theorem goodIn_r {big : List Cond} (ws : List Cond) (ps : List Nat) (hp : ws = ps.filterMap (fun i => big[i]?)) (h : ws.all goodWord = true) : GoodIn big ws := by
  intro w hw
  have h1 := List.all_eq_true.mp h w hw
  rw [hp] at hw
  obtain ⟨i, -, hi⟩ := List.mem_filterMap.mp hw
  have hm : w ∈ big := by first | exact List.mem_of_getElem? hi | exact List.getElem?_mem hi
  exact ⟨hm, good_of_word h1⟩
theorem goodIn_app {big a b : List Cond} (ha : GoodIn big a) (hb : GoodIn big b) : GoodIn big (a ++ b) := fun w h => (List.mem_append.mp h).elim (ha w) (hb w)
theorem goodIn_ca {big a b : List Cond} {c : Cond} (ha : GoodIn big (c :: a)) (hb : GoodIn big b) : GoodIn big (c :: (a ++ b)) := fun w h => (List.mem_cons.mp h).elim (fun e => ha w (List.mem_cons.mpr (Or.inl e))) (fun h => (List.mem_append.mp h).elim (fun h => ha w (List.mem_cons.mpr (Or.inr h))) (hb w))
theorem goodIn_sub {big ws : List Cond} (hm : ∀ w ∈ ws, w ∈ big) (h : ws.all goodWord = true) : GoodIn big ws := fun w hw => ⟨hm w hw, good_of_word (List.all_eq_true.mp h w hw)⟩
/-! ===== END ===== -/

/-! ===== BEGIN exceptions that leave a method, and their catching by the caller (launches without stack traces) ===== -/
section VXA
/-! The laws vx_back, vx_callV, vx_callS, vx_callSW, vx_throw0, vx_throwS follow proofs of the library, with one case more: JvmDerived/Free/Laws.lean (Back.of_free), Shelf42/LK1.lean (callV, callS), Shelf/KitTraced.lean (throwNew0V, throwNewS). -/
/-- where a method has thrown q: the class by its name, the cell, what was written, the world -/
def vx_T (XC : String → State → State → Prop) (st : State) (q : Addr) (t : State) (mc ms : Nat) (free : Addr → Prop) : Prop :=
  ∃ (E : String) (ce : Cell) (L : List Loc), XC E st t ∧ t.heap[q]? = some ce ∧ ce.vm = .none ∧ st.vm.findClass E = some ce.cls ∧ st.WarmedH t.vm ∧ st.sameButNew ({ t with vm := st.vm } : State) L mc ms ∧ ∀ z ∈ L, free z.base
def vx_Q (Qc : Array Value → State → Outcome → State → Prop) (XC : String → State → State → Prop) (mc ms : Nat) (free : Addr → Prop) : Array Value → State → Outcome → State → Prop := fun a st o t =>
  (Qc a st o t ∧ ∃ L, FrameEnd st o t L mc ms ∧ ∀ q ∈ L, free q.base) ∨ ∃ q, o = .threw q ∧ vx_T XC st q t mc ms free
/-- a callee that returns or throws -/
def vx_Met (l : Launch) (y : MethodName) (ws : List Cond) (rm : Room) (Pc : Array Value → State → Prop) (Qc : Array Value → State → Outcome → State → Prop) (XC : String → State → State → Prop) (mc ms : Nat) (free : Addr → Prop) : Prop :=
  MetFree l y (headSpec ws rm) Pc (fun _ _ _ _ _ => True) (vx_Q Qc XC mc ms free)
def vx_Post (XC : String → State → State → Prop) (mc ms : Nat) (free : Addr → Prop) : Pt → Array Value → Addr → Pt → Prop := fun A a q B =>
  ∃ (g : JFrame) (mk : MethodId) (t : State) (L : List Loc) (E : String) (ce : Cell), B.U.heap = t.heap ∧ B.U.vm = t.vm ∧ XC E (A.U.calling g mk a) t ∧ t.heap[q]? = some ce ∧ ce.vm = .none ∧ A.U.vm.findClass E = some ce.cls ∧ B.locs = A.locs ++ L ∧ (∀ z ∈ L, free z.base) ∧ B.cells = A.cells + mc ∧ B.slots = A.slots + ms
def vx_Back (l : Launch) (R : Room) (p : Program) (e : Env) (below : List Frame) (s : State) (sargs : Array Value) (y : MethodName) (len W9 : Nat)
    (Pre : Pt → Array Value → Prop) (Post : Pt → Array Value → Option Value → Pt → Prop) (PostX : Pt → Array Value → Addr → Pt → Prop) : Prop :=
  ∀ (m : MethodId) (meth : Method) (c : Code) (A : Pt) (g : JFrame) (ig : Instr) (mk : MethodId) (a : Array Value),
    Stand p l e R s m sargs below meth c A.U A.locs A.cells A.slots → g.method = m → g.locals.size = c.maxLocals → decode c.code g.pc = .ok (ig, len) →
    2 * g.monitorRoom + (g.stack.map fun v => v.category).sum ≤ W9 → A.U.methodNamed? y = some mk → Pre A a →
    (∃ (v : Option Value) (B : Pt), Stand p l e R s m sargs below meth c B.U B.locs B.cells B.slots ∧ Post A a v B ∧
      Steps p.tables e below (doInvoke e (A.U.setTop g) [] mk a).1 (B.U.setTop { g with pc := g.pc + len, stack := v.toList ++ g.stack })) ∨
    (∃ (q : Addr) (B : Pt), Stand p l e R s m sargs below meth c B.U B.locs B.cells B.slots ∧ PostX A a q B ∧
      Steps p.tables e below (doInvoke e (A.U.setTop g) [] mk a).1 ((B.U.setTop g).pushFrame (.throwing q)))
section Payer
variable {l : Launch} {R : Room} {p : Program} {e : Env} {below : List Frame} {s : State} {sargs : Array Value} {y : MethodName} {len W9 : Nat}
theorem vx_back {ws : List Cond} {rm : Room} {Pc : Array Value → State → Prop} {Qc : Array Value → State → Outcome → State → Prop} {XC : String → State → State → Prop} {mc ms : Nat} {free : Addr → Prop} {bytes : ByteArray} {maxL : Nat} {ret : Option FieldType}
    (hM : vx_Met l y ws rm Pc Qc XC mc ms free) (hblind : FrameBlind Pc) (hrc : rm.cells = mc) (hrs : rm.slots = ms)
    (hframes : rm.frames + 1 ≤ R.frames) (hlocals : W9 + (maxL + 11) + rm.locals ≤ R.locals)
    (hws : ∀ w ∈ ws, ∀ a' U, s.WarmedH U.vm → w.before a' U = true) (hcode : Cond.code y bytes maxL ret ∈ ws) (hinit : ∀ a' U, s.WarmedH U.vm → (Cond.initialized y.cls).before a' U = true) :
    vx_Back l R p e below s sargs y len W9 (PreOf R mc ms Pc) (PostOf Qc mc ms free) (vx_Post XC mc ms free) := by
  intro m meth c A g ig mk a X hg hsize hdg hW hn hp
  have h1 : (headSpec ws rm).pre.before a A.U = true := atoms_intro fun w hw => hws w hw _ _ X.warmed
  have h2 : (Cond.code y bytes maxL ret).before a A.U = true := hws _ hcode _ _ X.warmed
  have h3 : (Cond.initialized y.cls).before a A.U = true := hinit _ _ X.warmed
  have h4 : A.cells + (headSpec ws rm).room.cells ≤ R.cells := by rw [show (headSpec ws rm).room.cells = mc from hrc]; exact hp.1
  have h5 : A.slots + (headSpec ws rm).room.slots ≤ R.slots := by rw [show (headSpec ws rm).room.slots = ms from hrs]; exact hp.2.1
  have hPc : Pc a (A.U.calling g mk a) := hblind _ _ _ _ hp.2.2
  obtain ⟨U, Ls, c0, s0⟩ := A
  dsimp only [Pt.U, Pt.locs, Pt.cells, Pt.slots] at h1 h2 h3 h4 h5 X hn hPc ⊢
  obtain ⟨methY, cY, hmY, hcY, -, hlY, -, -, -, -⟩ := Cond.code_spec hn h2
  obtain ⟨kY, hkY, -⟩ := className_of_methodNamed hn
  have hinitY : kY.init = .initialized := Cond.initialized_spec (findClass_of_methodNamed hn) hkY h3
  have h : At U g.method c below := by rw [hg]; exact X.here
  have hlocals9 : W9 + (maxL + 11) + (headSpec ws rm).room.locals ≤ R.locals := hlocals
  have happ : (headSpec ws rm).appliesLoose y e.platform (U.calling g mk a) = true :=
    Spec.appliesLoose_calling (g := g) h hdg hn hkY hinitY
      (X.room_calling (g := g) (R' := (headSpec ws rm).room) hsize hmY hcY hframes (by rw [hlY]; omega) h4 h5) h1
  obtain ⟨mid, hmid⟩ := h.above
  have hfr : (U.setTop g).frames = (.java g :: mid) ++ below := by rw [State.frames_setTop' g h.top, hmid]; rfl
  obtain ⟨o, s₂, hsteps, -, hend, hq⟩ := Steps.callFree hM p X.admits X.cas X.clock (acts := []) hfr happ hPc trivial
  have hq' : vx_Q Qc XC mc ms free a (U.calling g mk a) o s₂ := hq
  rw [State.frames_setTop' g h.top] at hend
  obtain ⟨g₀, hg0⟩ := Option.isSome_iff_exists.mp h.top
  obtain ⟨r, hr⟩ := State.topJava?_eq_some.mp hg0
  have hr' : (({ U with heap := s₂.heap, slotsUsed := s₂.slotsUsed } : State).setVm s₂.vm).frames = .java g₀ :: r := hr
  rcases hq' with ⟨hqc, L, hfe, hL⟩ | ⟨q, rfl, E, ce, L, hx, hce, hcv, hcl, hW₂, hsm, hL⟩
  · obtain ⟨⟨v, rfl⟩, hW₂, e2, q2, q3, q4, q5, q6⟩ := id hfe
    have e3 : s₂ = ({ (U.calling g mk a).setFrames s₂.frames with heap := s₂.heap, slotsUsed := s₂.slotsUsed } : State).setVm s₂.vm := by
      have : s₂ = ({ s₂ with vm := (U.calling g mk a).vm } : State).setVm s₂.vm := rfl
      rw [e2] at this
      exact this
    obtain ⟨c₂, i₂, len₂, hc₂, hd₂, hf₂⟩ := hend
    have hW' : U.WarmedH s₂.vm := hW₂
    have hcc : c₂ = c := by
      have h1 : s₂.code? g.method = U.code? g.method := by
        rw [State.code?_eq, State.code?_eq, hW'.alike.method?]
      exact Option.some.inj (hc₂.symm.trans (h1.trans h.code))
    subst hcc
    have hlen : len₂ = len := by rw [hdg] at hd₂; cases hd₂; rfl
    subst hlen
    have hs₂ : s₂ = (({ U with heap := s₂.heap, slotsUsed := s₂.slotsUsed } : State).setVm s₂.vm).setTop { g with pc := g.pc + len₂, stack := v.toList ++ g.stack } := by
      refine e3.trans ?_
      rw [hf₂, State.calling_eq h.top, State.setFrames_setFrames, State.setTop_of_frames _ hr', hr]
      rfl
    have hsame : U.sameButNew ({ U with heap := s₂.heap, slotsUsed := s₂.slotsUsed } : State) L mc ms := by
      refine ⟨?_, q2, q3, q4, q5, q6⟩
      obtain ⟨t, ht, -⟩ := State.frames_cons hr
      show ({ U with heap := s₂.heap, slotsUsed := s₂.slotsUsed } : State) = { U.setFrames U.frames with heap := s₂.heap, slotsUsed := s₂.slotsUsed }
      rw [State.setFrames_self ht]
    subst hg
    refine Or.inl ⟨v, ⟨(({ U with heap := s₂.heap, slotsUsed := s₂.slotsUsed } : State).setVm s₂.vm), Ls ++ L, c0 + mc, s0 + ms⟩,
      ⟨X.admits, X.cas, X.clock, X.frames, X.room, X.hears, X.method, X.code, (X.here.setHeapUsed s₂.heap s₂.slotsUsed).setVm hW'.alike, X.tail, State.WarmedH.trans X.warmed hW', X.limits, X.bytes, X.same.trans (hsame.setVm s.vm)⟩,
      ⟨g, mk, s₂, L, rfl, rfl, hqc, rfl, hL, rfl, rfl⟩, ?_⟩
    show Steps p.tables e below _ ((({ U with heap := s₂.heap, slotsUsed := s₂.slotsUsed } : State).setVm s₂.vm).setTop { g with pc := g.pc + len₂, stack := v.toList ++ g.stack })
    rw [← hs₂]
    exact hsteps
  · obtain ⟨e2, q2, q3, q4, q5, q6⟩ := id hsm
    have e3 : s₂ = ({ (U.calling g mk a).setFrames s₂.frames with heap := s₂.heap, slotsUsed := s₂.slotsUsed } : State).setVm s₂.vm := by
      have : s₂ = ({ s₂ with vm := (U.calling g mk a).vm } : State).setVm s₂.vm := rfl
      rw [e2] at this
      exact this
    have hf₂ : s₂.frames = .throwing q :: .java g :: U.frames.tail := hend
    have hW' : U.WarmedH s₂.vm := hW₂
    have hs₂ : s₂ = ((({ U with heap := s₂.heap, slotsUsed := s₂.slotsUsed } : State).setVm s₂.vm).setTop g).pushFrame (.throwing q) := by
      refine e3.trans ?_
      rw [hf₂, State.calling_eq h.top, State.setFrames_setFrames, State.pushFrame, State.frames_setTop _ hr', State.setTop_of_frames _ hr', State.setFrames_setFrames, hr]
      rfl
    have hsame : U.sameButNew ({ U with heap := s₂.heap, slotsUsed := s₂.slotsUsed } : State) L mc ms := by
      refine ⟨?_, q2, q3, q4, q5, q6⟩
      obtain ⟨t, ht, -⟩ := State.frames_cons hr
      show ({ U with heap := s₂.heap, slotsUsed := s₂.slotsUsed } : State) = { U.setFrames U.frames with heap := s₂.heap, slotsUsed := s₂.slotsUsed }
      rw [State.setFrames_self ht]
    subst hg
    refine Or.inr ⟨q, ⟨(({ U with heap := s₂.heap, slotsUsed := s₂.slotsUsed } : State).setVm s₂.vm), Ls ++ L, c0 + mc, s0 + ms⟩,
      ⟨X.admits, X.cas, X.clock, X.frames, X.room, X.hears, X.method, X.code, (X.here.setHeapUsed s₂.heap s₂.slotsUsed).setVm hW'.alike, X.tail, State.WarmedH.trans X.warmed hW', X.limits, X.bytes, X.same.trans (hsame.setVm s.vm)⟩,
      ⟨g, mk, s₂, L, E, ce, rfl, rfl, hx, hce, hcv, hcl, rfl, hL, rfl, rfl⟩, ?_⟩
    show Steps p.tables e below _ (((({ U with heap := s₂.heap, slotsUsed := s₂.slotsUsed } : State).setVm s₂.vm).setTop g).pushFrame (.throwing q))
    rw [← hs₂]
    exact hsteps
end Payer
section Calls
variable {p : Program} {l : Launch} {e : Env} {R : Room} {s : State} {m : MethodId} {args : Array Value} {below : List Frame} {meth : Method} {c : Code} {T : State} {locs : List Loc} {cells slots : Nat}
theorem vx_callV (X : Stand p l e R s m args below meth c T locs cells slots) (hexec : p.tables.exec = Jvm.exec) {own C : String} {index : Nat} {y : MethodName} {bytes : ByteArray} {maxL : Nat} {ret : Option FieldType}
    (hown : s.vm.findClass own = some m.cls) (hlink : (Cond.methodLink own index y).before args s = true) (hinst : (Cond.instanceMethod y).before args s = true) (hsel : (Cond.selects C y y).before args s = true)
    (hcode : (Cond.code y bytes maxL ret).before args s = true) (hy : y.cls ≠ "java/lang/invoke/MethodHandle" ∧ y.cls ≠ "java/lang/invoke/VarHandle")
    {W9 : Nat} {Pre : Pt → Array Value → Prop} {Post : Pt → Array Value → Option Value → Pt → Prop} {PostX : Pt → Array Value → Addr → Pt → Prop} (hK : vx_Back l R p e below s args y 3 W9 Pre Post PostX)
    {b : Addr} {cellB : Cell} (hcell : T.heap[b]? = some cellB) (hobj : cellB.vm.isStatics = false) (hcls : s.vm.findClass C = some cellB.cls)
    {g : JFrame} (hg : g.method = m) (hsize : g.locals.size = c.maxLocals) {argsL rest : List Value} (hlen : ∀ sig, parseMethodDescriptor y.desc = some sig → argsL.length = sig.parameters.length)
    (hstack : g.stack = argsL.reverse ++ .ref b :: rest) (hW : 2 * g.monitorRoom + (rest.map fun v => v.category).sum ≤ W9) (hdg : decode c.code g.pc = .ok (.invokevirtual index, 3))
    (hpre : ∀ vm₁, s.WarmedH vm₁ → Pre ⟨T.setVm vm₁, locs, cells, slots⟩ (Value.ref b :: argsL).toArray) :
    (∃ (v : Option Value) (vm₁ : Vm) (B : Pt), s.WarmedH vm₁ ∧ Stand p l e R s m args below meth c B.U B.locs B.cells B.slots ∧ Post ⟨T.setVm vm₁, locs, cells, slots⟩ (Value.ref b :: argsL).toArray v B ∧
      ∀ target, Steps p.tables e below (B.U.setTop { g with pc := g.pc + 3, stack := v.toList ++ rest }) target → Steps p.tables e below (T.setTop g) target) ∨
    (∃ (q : Addr) (vm₁ : Vm) (B : Pt), s.WarmedH vm₁ ∧ Stand p l e R s m args below meth c B.U B.locs B.cells B.slots ∧ PostX ⟨T.setVm vm₁, locs, cells, slots⟩ (Value.ref b :: argsL).toArray q B ∧
      Steps p.tables e below (T.setTop g) ((B.U.setTop { g with stack := rest }).pushFrame (.throwing q))) := by
  obtain ⟨mk, methM, hnamed, hmethM, hstM, habM⟩ := Cond.instanceMethod_spec hinst
  obtain ⟨methM', cM, hmethM', -, -, -, -, -, -, hsigM⟩ := Cond.code_spec hnamed hcode
  cases hmethM.symm.trans hmethM'
  obtain ⟨c2, r2, m2, q1, q2, q3, q4, kP, hkP, hkPi⟩ := Cond.selects_spec hsel
  cases hcls.symm.trans q1
  cases (State.methodFound?_of_named hnamed hy).symm.trans q2
  cases hnamed.symm.trans q3
  have hselP : selectMethod e.platform s.vm cellB.cls mk = .method mk := by rw [Launch.admits_selectMethod X.admits]; exact q4
  obtain ⟨vm₁, X₁, hstep₁⟩ := X.invokevirtual hexec hown hlink hnamed hmethM hstM hkP hkPi hy (a := b) (cell := cellB) hcell
    (fun z h => by rw [h] at hobj; cases hobj) hselP hmethM habM hkP hkPi (g := g) hg (argsL := argsL) (rest := rest) (hlen _ hsigM) hstack hdg
  rcases hK m meth c ⟨T.setVm vm₁, locs, cells, slots⟩ { g with stack := rest } (.invokevirtual index) mk (Value.ref b :: argsL).toArray X₁ hg hsize hdg hW (X₁.named hnamed) (hpre vm₁ X₁.warmed) with ⟨v, B, X', hpost, hsteps⟩ | ⟨q, B, X', hpost, hsteps⟩
  · exact Or.inl ⟨v, vm₁, B, X₁.warmed, X', hpost, fun target h => hstep₁ _ fun acts => by rw [doInvoke_state]; exact hsteps.trans h⟩
  · exact Or.inr ⟨q, vm₁, B, X₁.warmed, X', hpost, hstep₁ _ fun acts => by rw [doInvoke_state]; exact hsteps⟩
theorem vx_callS (X : Stand p l e R s m args below meth c T locs cells slots) (hexec : p.tables.exec = Jvm.exec) {own : String} {index : Nat} {y : MethodName} {bytes : ByteArray} {maxL : Nat} {ret : Option FieldType}
    (hown : s.vm.findClass own = some m.cls) (hlink : (Cond.methodLink own index y).before args s = true) (hstat : (Cond.static y).before args s = true) (hinit : (Cond.initialized y.cls).before args s = true)
    (hcode : (Cond.code y bytes maxL ret).before args s = true) (hy : y.cls ≠ "java/lang/invoke/MethodHandle" ∧ y.cls ≠ "java/lang/invoke/VarHandle")
    {W9 : Nat} {Pre : Pt → Array Value → Prop} {Post : Pt → Array Value → Option Value → Pt → Prop} {PostX : Pt → Array Value → Addr → Pt → Prop} (hK : vx_Back l R p e below s args y 3 W9 Pre Post PostX)
    {g : JFrame} (hg : g.method = m) (hsize : g.locals.size = c.maxLocals) {argsL rest : List Value} (hlen : ∀ sig, parseMethodDescriptor y.desc = some sig → argsL.length = sig.parameters.length)
    (hstack : g.stack = argsL.reverse ++ rest) (hW : 2 * g.monitorRoom + (rest.map fun v => v.category).sum ≤ W9) (hdg : decode c.code g.pc = .ok (.invokestatic index, 3))
    (hpre : ∀ vm₁, s.WarmedH vm₁ → Pre ⟨T.setVm vm₁, locs, cells, slots⟩ argsL.toArray) :
    (∃ (v : Option Value) (vm₁ : Vm) (B : Pt), s.WarmedH vm₁ ∧ Stand p l e R s m args below meth c B.U B.locs B.cells B.slots ∧ Post ⟨T.setVm vm₁, locs, cells, slots⟩ argsL.toArray v B ∧
      ∀ target, Steps p.tables e below (B.U.setTop { g with pc := g.pc + 3, stack := v.toList ++ rest }) target → Steps p.tables e below (T.setTop g) target) ∨
    (∃ (q : Addr) (vm₁ : Vm) (B : Pt), s.WarmedH vm₁ ∧ Stand p l e R s m args below meth c B.U B.locs B.cells B.slots ∧ PostX ⟨T.setVm vm₁, locs, cells, slots⟩ argsL.toArray q B ∧
      Steps p.tables e below (T.setTop g) ((B.U.setTop { g with stack := rest }).pushFrame (.throwing q))) := by
  obtain ⟨mk, hnamed⟩ := Cond.code_named hcode
  obtain ⟨methM, cM, hmethM, -, -, -, -, -, -, hsigM⟩ := Cond.code_spec hnamed hcode
  have hstatic : methM.isStatic = true := Cond.static_spec hnamed hmethM hstat
  obtain ⟨kP, hkP, -⟩ := className_of_methodNamed hnamed
  have hinitP : kP.init = .initialized := Cond.initialized_spec (findClass_of_methodNamed hnamed) hkP hinit
  obtain ⟨vm₁, X₁, hstep₁⟩ := X.invokestatic hexec hown hlink hnamed hmethM hstatic hkP hinitP hy (g := g) hg (argsL := argsL) (rest := rest) (hlen _ hsigM) hstack hdg
  rcases hK m meth c ⟨T.setVm vm₁, locs, cells, slots⟩ { g with stack := rest } (.invokestatic index) mk argsL.toArray X₁ hg hsize hdg hW (X₁.named hnamed) (hpre vm₁ X₁.warmed) with ⟨v, B, X', hpost, hsteps⟩ | ⟨q, B, X', hpost, hsteps⟩
  · exact Or.inl ⟨v, vm₁, B, X₁.warmed, X', hpost, fun target h => hstep₁ _ fun acts => by rw [doInvoke_state]; exact hsteps.trans h⟩
  · exact Or.inr ⟨q, vm₁, B, X₁.warmed, X', hpost, hstep₁ _ fun acts => by rw [doInvoke_state]; exact hsteps⟩
end Calls
theorem vx_cls {s : State} {T : State} {vm₁ : Vm} {E : String} {k : ClassId} (hW : s.WarmedH vm₁) (h : (T.setVm vm₁).vm.findClass E = some k) : s.vm.findClass E = some k := by
  have h1 : vm₁.findClass E = some k := h
  rw [hW.alike.findClass] at h1
  exact h1
/-- the method's frame g, with q thrown over it -/
def vx_W (p : Program) (l : Launch) (e : Env) (R : Room) (s : State) (m : MethodId) (args : Array Value) (below : List Frame) (meth : Method) (c : Code) (H : Heap) (locs : List Loc) (cells slots : Nat) (Q : State → Prop) (g : JFrame) (q : Addr) : Prop :=
  ∀ T : State, T.heap = H → Stand p l e R s m args below meth c T locs cells slots → ∃ t, Steps p.tables e below ((T.setTop g).pushFrame (.throwing q)) t ∧ Q t
def vx_Run (p : Program) (l : Launch) (e : Env) (R : Room) (s : State) (m : MethodId) (args : Array Value) (below : List Frame) (meth : Method) (c : Code) (H : Heap) (locs : List Loc) (cells slots mc ms : Nat) (g : JFrame) (rest : List Value) (Qa : State → Outcome → State → Prop) (XC : String → State → State → Prop) (free : Addr → Prop) : Prop :=
  ∀ T : State, T.heap = H → Stand p l e R s m args below meth c T locs cells slots →
    (∃ (v : Option Value) (st₀ t T' : State) (L : List Loc), st₀.heap = H ∧ Stand p l e R s m args below meth c T' (locs ++ L) (cells + mc) (slots + ms) ∧ (∀ q ∈ L, free q.base) ∧ T'.heap = t.heap ∧ T'.vm = t.vm ∧ Qa st₀ (.returned v) t ∧
      Goes p e below T g T' { g with pc := g.pc + 3, stack := v.toList ++ rest }) ∨
    (∃ (q : Addr) (st₀ t T' : State) (L : List Loc) (E : String) (ce : Cell), st₀.heap = H ∧ Stand p l e R s m args below meth c T' (locs ++ L) (cells + mc) (slots + ms) ∧ (∀ z ∈ L, free z.base) ∧ T'.heap = t.heap ∧ T'.vm = t.vm ∧ XC E st₀ t ∧ t.heap[q]? = some ce ∧ ce.vm = .none ∧ s.vm.findClass E = some ce.cls ∧
      Steps p.tables e below (T.setTop g) ((T'.setTop { g with stack := rest }).pushFrame (.throwing q)))
def vx_X {S : Type} (px : S → Prop) (B : String → S → State → Prop) (A : Nat → Prop) : String → State → State → Prop := fun E st t => ∃ u : S, px u ∧ B E u t ∧ va_F A st t
section Runs
variable {p : Program} {l : Launch} {e : Env} {R : Room} {s : State} {m : MethodId} {args : Array Value} {below : List Frame} {meth : Method} {c : Code} {H : Heap} {locs : List Loc} {cells slots : Nat}
variable {y : MethodName} {bytes cc : ByteArray} {maxL nL mc ms n index : Nat} {ret : Option FieldType} {ws : List Cond} {rm : Room} {Pc : Array Value → State → Prop} {Qc : Array Value → State → Outcome → State → Prop} {XC : String → State → State → Prop} {free : Addr → Prop} {Ts : List Cond} {own C : String} {b : Addr} {As rest : List Value} {g : JFrame}
theorem vx_callBack (cb : CallB R s args own index y bytes maxL ret ws rm mc ms n) (hM : vx_Met l y ws rm Pc Qc XC mc ms free) (hbl : FrameBlind Pc) : vx_Back l R p e below s args y 3 8 (PreOf R mc ms Pc) (PostOf Qc mc ms free) (vx_Post XC mc ms free) := by
  obtain ⟨hrc, hrs, hfr, hlo, hws, hcw, -, hini, -⟩ := cb
  exact vx_back (bytes := bytes) (maxL := maxL) (ret := ret) hM hbl hrc hrs hfr hlo hws hcw (fun a' U hW => word_at hW (Or.inl (by first | rfl | simp [Cond.onTables, Cond.keeps, Cond.steady])) hini)
theorem vx_runV (S : CallFix p m c cc nL s args Ts own) (hM : vx_Met l y ws rm Pc Qc XC mc ms free) (cw : CallW R s args own C index y bytes maxL ret ws rm mc ms n) (hp : PreV s H C b Pc As)
    (hg : g.method = m) (hn : As.length = n) (hsize : g.locals.size = nL) (hstack : g.stack = As.reverse ++ .ref b :: rest) (hW : 2 * g.monitorRoom + (rest.map fun v => v.category).sum ≤ 8) (hdg : decode cc g.pc = .ok (.invokevirtual index, 3)) (hf : cells + mc ≤ R.cells ∧ slots + ms ≤ R.slots) :
    vx_Run p l e R s m args below meth c H locs cells slots mc ms g rest (Qc (Value.ref b :: As).toArray) XC free := by
  have hK : vx_Back l R p e below s args y 3 8 (PreOf R mc ms Pc) (PostOf Qc mc ms free) (vx_Post XC mc ms free) := vx_callBack cw.1 hM hp.1
  obtain ⟨⟨-, -, -, -, -, -, hcode, -, hy, hlen, hl⟩, hin, hse⟩ := cw
  obtain ⟨hx, hb, hml, ho, -⟩ := S
  obtain ⟨-, ⟨cellB, hcB, hoB, hclB⟩, hPc⟩ := hp
  intro T hT X
  rcases vx_callV X hx (C := C) (bytes := bytes) (maxL := maxL) (ret := ret) ho hl hin hse hcode hy hK (by rw [hT]; exact hcB) hoB hclB hg (hsize.trans hml.symm) (argsL := As) (rest := rest) (fun sig h => hn.trans (hlen sig h)) hstack hW (by rw [hb]; exact hdg)
    (fun vm₁ hW₁ => ⟨hf.1, hf.2, hPc (T.setVm vm₁) hT hW₁⟩) with ⟨v, vm₁, ⟨U', l2, c2, s2⟩, hW₁, X', ⟨g', mk, t, L, e1, e2, hq, h1, hL, h2, h3⟩, st⟩ | ⟨q, vm₁, ⟨U', l2, c2, s2⟩, hW₁, X', ⟨g', mk, t, L, E, ce, e1, e2, hq, hce, hcv, hcl, h1, hL, h2, h3⟩, st⟩
  · dsimp only [Pt.U, Pt.locs, Pt.cells, Pt.slots] at X' e1 e2 h1 h2 h3 st
    subst h1; subst h2; subst h3
    exact Or.inl ⟨v, (T.setVm vm₁).calling g' mk (Value.ref b :: As).toArray, t, U', L, hT, X', hL, e1, e2, hq, st⟩
  · dsimp only [Pt.U, Pt.locs, Pt.cells, Pt.slots] at X' e1 e2 h1 h2 h3 st hcl
    subst h1; subst h2; subst h3
    exact Or.inr ⟨q, (T.setVm vm₁).calling g' mk (Value.ref b :: As).toArray, t, U', L, E, ce, hT, X', hL, e1, e2, hq, hce, hcv, vx_cls hW₁ hcl, st⟩
theorem vx_runS (S : CallFix p m c cc nL s args Ts own) (hM : vx_Met l y ws rm Pc Qc XC mc ms free) (cw : CallB R s args own index y bytes maxL ret ws rm mc ms n ∧ (Cond.static y).before args s = true) (hp : PreS s H Pc As)
    (hg : g.method = m) (hn : As.length = n) (hsize : g.locals.size = nL) (hstack : g.stack = As.reverse ++ rest) (hW : 2 * g.monitorRoom + (rest.map fun v => v.category).sum ≤ 8) (hdg : decode cc g.pc = .ok (.invokestatic index, 3)) (hf : cells + mc ≤ R.cells ∧ slots + ms ≤ R.slots) :
    vx_Run p l e R s m args below meth c H locs cells slots mc ms g rest (Qc As.toArray) XC free := by
  have hK : vx_Back l R p e below s args y 3 8 (PreOf R mc ms Pc) (PostOf Qc mc ms free) (vx_Post XC mc ms free) := vx_callBack cw.1 hM hp.1
  obtain ⟨⟨-, -, -, -, -, -, hcode, hini, hy, hlen, hl⟩, hstt⟩ := cw
  obtain ⟨hx, hb, hml, ho, -⟩ := S
  intro T hT X
  rcases vx_callS X hx (bytes := bytes) (maxL := maxL) (ret := ret) ho hl hstt hini hcode hy hK hg (hsize.trans hml.symm) (argsL := As) (rest := rest) (fun sig h => hn.trans (hlen sig h)) hstack hW (by rw [hb]; exact hdg)
    (fun vm₁ hW₁ => ⟨hf.1, hf.2, hp.2 (T.setVm vm₁) hT hW₁⟩) with ⟨v, vm₁, ⟨U', l2, c2, s2⟩, hW₁, X', ⟨g', mk, t, L, e1, e2, hq, h1, hL, h2, h3⟩, st⟩ | ⟨q, vm₁, ⟨U', l2, c2, s2⟩, hW₁, X', ⟨g', mk, t, L, E, ce, e1, e2, hq, hce, hcv, hcl, h1, hL, h2, h3⟩, st⟩
  · dsimp only [Pt.U, Pt.locs, Pt.cells, Pt.slots] at X' e1 e2 h1 h2 h3 st
    subst h1; subst h2; subst h3
    exact Or.inl ⟨v, (T.setVm vm₁).calling g' mk As.toArray, t, U', L, hT, X', hL, e1, e2, hq, st⟩
  · dsimp only [Pt.U, Pt.locs, Pt.cells, Pt.slots] at X' e1 e2 h1 h2 h3 st hcl
    subst h1; subst h2; subst h3
    exact Or.inr ⟨q, (T.setVm vm₁).calling g' mk As.toArray, t, U', L, E, ce, hT, X', hL, e1, e2, hq, hce, hcv, vx_cls hW₁ hcl, st⟩
end Runs
section Rows
variable {p : Program} {l : Launch} {e : Env} {R : Room} {s : State} {m : MethodId} {args : Array Value} {below : List Frame} {meth : Method} {c : Code} {H : Heap} {locs : List Loc} {cells slots : Nat} {Q : State → Prop}
variable {mc ms : Nat} {free : Addr → Prop} {A0 A1 : Nat → Prop} {H0 : Heap} {a : Array Value} {pc : Nat} {ls : Array Slot} {st0 rest : List Value}
theorem vx_keep {st₀ t T' : State} {L : List Loc} (h0 : st₀.heap = H) (e1 : T'.heap = t.heap) (hS : va_S A0 H0 H locs) (hA : ∀ q, q < H.size → A1 q → A0 q) (hf : ∀ q, free q → A0 q) (hL : ∀ q ∈ L, free q.base) (hF : va_F A1 st₀ t) :
    H.size ≤ T'.heap.size ∧ (∀ q : Nat, q < H.size → ¬ A1 q → T'.heap[q]? = H[q]?) ∧ va_S A0 H0 T'.heap (locs ++ L) := by
  obtain ⟨hz, hk⟩ := hF
  rw [h0] at hz hk
  exact ⟨by rw [e1]; exact hz, fun q h1 h2 => by rw [e1]; exact hk q h1 h2,
    ⟨Nat.le_trans hS.1 (by rw [e1]; exact hz), fun q h1 h2 => by rw [e1, hk q (Nat.lt_of_lt_of_le h1 hS.1) (fun z => h2 (hA q (Nat.lt_of_lt_of_le h1 hS.1) z))]; exact hS.2.1 q h1 h2, fun q hq => by
      rcases List.mem_append.mp hq with h | h
      · exact hS.2.2 q h
      · exact hf _ (hL q h)⟩⟩
theorem vx_calli {S SX : Type} {post : Int32 → S → Prop} {px : SX → Prop} {B : S → State → Prop} {BX : String → SX → State → Prop} {AX : Nat → Prop} (hr : vx_Run p l e R s m args below meth c H locs cells slots mc ms (F0 m pc ls st0) rest (va_Qi post B A1 a) (vx_X px BX AX) free) (hS : va_S A0 H0 H locs) (hA : ∀ q, q < H.size → A1 q → A0 q) (hf : ∀ q, free q → A0 q) (hAX : ∀ q, q < H.size → AX q → A0 q)
    (kx : ∀ (E : String) (ce : Cell) (q9 : Addr) (u : SX) (t : State) (H1 : Heap) (locs1 : List Loc), t.heap = H1 → s.vm.Alike t.vm → px u → BX E u t → H.size ≤ H1.size → (∀ q : Nat, q < H.size → ¬ AX q → H1[q]? = H[q]?) → va_S A0 H0 H1 locs1 → H1[q9]? = some ce → ce.vm = .none → s.vm.findClass E = some ce.cls → vx_W p l e R s m args below meth c H1 locs1 (cells + mc) (slots + ms) Q (F0 m pc ls rest) q9)
    (kk : ∀ (r : Int32) (u : S) (t : State) (H1 : Heap) (locs1 : List Loc), t.heap = H1 → s.vm.Alike t.vm → post r u → B u t → H.size ≤ H1.size → (∀ q : Nat, q < H.size → ¬ A1 q → H1[q]? = H[q]?) → va_S A0 H0 H1 locs1 → W p l e R s m args below meth c H1 locs1 (cells + mc) (slots + ms) Q (F0 m (pc + 3) ls (.int r :: rest))) : W p l e R s m args below meth c H locs cells slots Q (F0 m pc ls st0) := by
  intro T hT X
  rcases hr T hT X with ⟨v, st₀, t, T', L, h0, X', hL, e1, e2, ⟨⟨r, u, hv, hp, hb⟩, hF⟩, st⟩ | ⟨q, st₀, t, T', L, E, ce, h0, X', hL, e1, e2, ⟨u, hp, hb, hF⟩, hce, hcv, hcl, st⟩
  · cases hv
    obtain ⟨k1, k2, k3⟩ := vx_keep h0 e1 hS hA hf hL hF
    obtain ⟨t2, a1, b1⟩ := kk r u t T'.heap (locs ++ L) e1.symm (by rw [← e2]; exact X'.warmed.alike) hp hb k1 k2 k3 T' rfl X'
    exact ⟨t2, st t2 a1, b1⟩
  · obtain ⟨k1, k2, k3⟩ := vx_keep h0 e1 hS hAX hf hL hF
    obtain ⟨t2, a1, b1⟩ := kx E ce q u t T'.heap (locs ++ L) e1.symm (by rw [← e2]; exact X'.warmed.alike) hp hb k1 k2 k3 (by rw [e1]; exact hce) hcv hcl T' rfl X'
    exact ⟨t2, st.trans a1, b1⟩
theorem vx_calll {S SX : Type} {post : Int64 → S → Prop} {px : SX → Prop} {B : S → State → Prop} {BX : String → SX → State → Prop} {AX : Nat → Prop} (hr : vx_Run p l e R s m args below meth c H locs cells slots mc ms (F0 m pc ls st0) rest (va_Ql post B A1 a) (vx_X px BX AX) free) (hS : va_S A0 H0 H locs) (hA : ∀ q, q < H.size → A1 q → A0 q) (hf : ∀ q, free q → A0 q) (hAX : ∀ q, q < H.size → AX q → A0 q)
    (kx : ∀ (E : String) (ce : Cell) (q9 : Addr) (u : SX) (t : State) (H1 : Heap) (locs1 : List Loc), t.heap = H1 → s.vm.Alike t.vm → px u → BX E u t → H.size ≤ H1.size → (∀ q : Nat, q < H.size → ¬ AX q → H1[q]? = H[q]?) → va_S A0 H0 H1 locs1 → H1[q9]? = some ce → ce.vm = .none → s.vm.findClass E = some ce.cls → vx_W p l e R s m args below meth c H1 locs1 (cells + mc) (slots + ms) Q (F0 m pc ls rest) q9)
    (kk : ∀ (r : Int64) (u : S) (t : State) (H1 : Heap) (locs1 : List Loc), t.heap = H1 → s.vm.Alike t.vm → post r u → B u t → H.size ≤ H1.size → (∀ q : Nat, q < H.size → ¬ A1 q → H1[q]? = H[q]?) → va_S A0 H0 H1 locs1 → W p l e R s m args below meth c H1 locs1 (cells + mc) (slots + ms) Q (F0 m (pc + 3) ls (.long r :: rest))) : W p l e R s m args below meth c H locs cells slots Q (F0 m pc ls st0) := by
  intro T hT X
  rcases hr T hT X with ⟨v, st₀, t, T', L, h0, X', hL, e1, e2, ⟨⟨r, u, hv, hp, hb⟩, hF⟩, st⟩ | ⟨q, st₀, t, T', L, E, ce, h0, X', hL, e1, e2, ⟨u, hp, hb, hF⟩, hce, hcv, hcl, st⟩
  · cases hv
    obtain ⟨k1, k2, k3⟩ := vx_keep h0 e1 hS hA hf hL hF
    obtain ⟨t2, a1, b1⟩ := kk r u t T'.heap (locs ++ L) e1.symm (by rw [← e2]; exact X'.warmed.alike) hp hb k1 k2 k3 T' rfl X'
    exact ⟨t2, st t2 a1, b1⟩
  · obtain ⟨k1, k2, k3⟩ := vx_keep h0 e1 hS hAX hf hL hF
    obtain ⟨t2, a1, b1⟩ := kx E ce q u t T'.heap (locs ++ L) e1.symm (by rw [← e2]; exact X'.warmed.alike) hp hb k1 k2 k3 (by rw [e1]; exact hce) hcv hcl T' rfl X'
    exact ⟨t2, st.trans a1, b1⟩
theorem vx_callf {S SX : Type} {post : UInt32 → S → Prop} {px : SX → Prop} {B : S → State → Prop} {BX : String → SX → State → Prop} {AX : Nat → Prop} (hr : vx_Run p l e R s m args below meth c H locs cells slots mc ms (F0 m pc ls st0) rest (va_Qf post B A1 a) (vx_X px BX AX) free) (hS : va_S A0 H0 H locs) (hA : ∀ q, q < H.size → A1 q → A0 q) (hf : ∀ q, free q → A0 q) (hAX : ∀ q, q < H.size → AX q → A0 q)
    (kx : ∀ (E : String) (ce : Cell) (q9 : Addr) (u : SX) (t : State) (H1 : Heap) (locs1 : List Loc), t.heap = H1 → s.vm.Alike t.vm → px u → BX E u t → H.size ≤ H1.size → (∀ q : Nat, q < H.size → ¬ AX q → H1[q]? = H[q]?) → va_S A0 H0 H1 locs1 → H1[q9]? = some ce → ce.vm = .none → s.vm.findClass E = some ce.cls → vx_W p l e R s m args below meth c H1 locs1 (cells + mc) (slots + ms) Q (F0 m pc ls rest) q9)
    (kk : ∀ (r : UInt32) (u : S) (t : State) (H1 : Heap) (locs1 : List Loc), t.heap = H1 → s.vm.Alike t.vm → post r u → B u t → H.size ≤ H1.size → (∀ q : Nat, q < H.size → ¬ A1 q → H1[q]? = H[q]?) → va_S A0 H0 H1 locs1 → W p l e R s m args below meth c H1 locs1 (cells + mc) (slots + ms) Q (F0 m (pc + 3) ls (.float r :: rest))) : W p l e R s m args below meth c H locs cells slots Q (F0 m pc ls st0) := by
  intro T hT X
  rcases hr T hT X with ⟨v, st₀, t, T', L, h0, X', hL, e1, e2, ⟨⟨r, u, hv, hp, hb⟩, hF⟩, st⟩ | ⟨q, st₀, t, T', L, E, ce, h0, X', hL, e1, e2, ⟨u, hp, hb, hF⟩, hce, hcv, hcl, st⟩
  · cases hv
    obtain ⟨k1, k2, k3⟩ := vx_keep h0 e1 hS hA hf hL hF
    obtain ⟨t2, a1, b1⟩ := kk r u t T'.heap (locs ++ L) e1.symm (by rw [← e2]; exact X'.warmed.alike) hp hb k1 k2 k3 T' rfl X'
    exact ⟨t2, st t2 a1, b1⟩
  · obtain ⟨k1, k2, k3⟩ := vx_keep h0 e1 hS hAX hf hL hF
    obtain ⟨t2, a1, b1⟩ := kx E ce q u t T'.heap (locs ++ L) e1.symm (by rw [← e2]; exact X'.warmed.alike) hp hb k1 k2 k3 (by rw [e1]; exact hce) hcv hcl T' rfl X'
    exact ⟨t2, st.trans a1, b1⟩
theorem vx_calld {S SX : Type} {post : UInt64 → S → Prop} {px : SX → Prop} {B : S → State → Prop} {BX : String → SX → State → Prop} {AX : Nat → Prop} (hr : vx_Run p l e R s m args below meth c H locs cells slots mc ms (F0 m pc ls st0) rest (va_Qd post B A1 a) (vx_X px BX AX) free) (hS : va_S A0 H0 H locs) (hA : ∀ q, q < H.size → A1 q → A0 q) (hf : ∀ q, free q → A0 q) (hAX : ∀ q, q < H.size → AX q → A0 q)
    (kx : ∀ (E : String) (ce : Cell) (q9 : Addr) (u : SX) (t : State) (H1 : Heap) (locs1 : List Loc), t.heap = H1 → s.vm.Alike t.vm → px u → BX E u t → H.size ≤ H1.size → (∀ q : Nat, q < H.size → ¬ AX q → H1[q]? = H[q]?) → va_S A0 H0 H1 locs1 → H1[q9]? = some ce → ce.vm = .none → s.vm.findClass E = some ce.cls → vx_W p l e R s m args below meth c H1 locs1 (cells + mc) (slots + ms) Q (F0 m pc ls rest) q9)
    (kk : ∀ (r : UInt64) (u : S) (t : State) (H1 : Heap) (locs1 : List Loc), t.heap = H1 → s.vm.Alike t.vm → post r u → B u t → H.size ≤ H1.size → (∀ q : Nat, q < H.size → ¬ A1 q → H1[q]? = H[q]?) → va_S A0 H0 H1 locs1 → W p l e R s m args below meth c H1 locs1 (cells + mc) (slots + ms) Q (F0 m (pc + 3) ls (.double r :: rest))) : W p l e R s m args below meth c H locs cells slots Q (F0 m pc ls st0) := by
  intro T hT X
  rcases hr T hT X with ⟨v, st₀, t, T', L, h0, X', hL, e1, e2, ⟨⟨r, u, hv, hp, hb⟩, hF⟩, st⟩ | ⟨q, st₀, t, T', L, E, ce, h0, X', hL, e1, e2, ⟨u, hp, hb, hF⟩, hce, hcv, hcl, st⟩
  · cases hv
    obtain ⟨k1, k2, k3⟩ := vx_keep h0 e1 hS hA hf hL hF
    obtain ⟨t2, a1, b1⟩ := kk r u t T'.heap (locs ++ L) e1.symm (by rw [← e2]; exact X'.warmed.alike) hp hb k1 k2 k3 T' rfl X'
    exact ⟨t2, st t2 a1, b1⟩
  · obtain ⟨k1, k2, k3⟩ := vx_keep h0 e1 hS hAX hf hL hF
    obtain ⟨t2, a1, b1⟩ := kx E ce q u t T'.heap (locs ++ L) e1.symm (by rw [← e2]; exact X'.warmed.alike) hp hb k1 k2 k3 (by rw [e1]; exact hce) hcv hcl T' rfl X'
    exact ⟨t2, st.trans a1, b1⟩
theorem vx_callv {S SX : Type} {post : S → Prop} {px : SX → Prop} {B : S → State → Prop} {BX : String → SX → State → Prop} {AX : Nat → Prop} (hr : vx_Run p l e R s m args below meth c H locs cells slots mc ms (F0 m pc ls st0) rest (va_Qv post B A1 a) (vx_X px BX AX) free) (hS : va_S A0 H0 H locs) (hA : ∀ q, q < H.size → A1 q → A0 q) (hf : ∀ q, free q → A0 q) (hAX : ∀ q, q < H.size → AX q → A0 q)
    (kx : ∀ (E : String) (ce : Cell) (q9 : Addr) (u : SX) (t : State) (H1 : Heap) (locs1 : List Loc), t.heap = H1 → s.vm.Alike t.vm → px u → BX E u t → H.size ≤ H1.size → (∀ q : Nat, q < H.size → ¬ AX q → H1[q]? = H[q]?) → va_S A0 H0 H1 locs1 → H1[q9]? = some ce → ce.vm = .none → s.vm.findClass E = some ce.cls → vx_W p l e R s m args below meth c H1 locs1 (cells + mc) (slots + ms) Q (F0 m pc ls rest) q9)
    (kk : ∀ (u : S) (t : State) (H1 : Heap) (locs1 : List Loc), t.heap = H1 → s.vm.Alike t.vm → post u → B u t → H.size ≤ H1.size → (∀ q : Nat, q < H.size → ¬ A1 q → H1[q]? = H[q]?) → va_S A0 H0 H1 locs1 → W p l e R s m args below meth c H1 locs1 (cells + mc) (slots + ms) Q (F0 m (pc + 3) ls (rest))) : W p l e R s m args below meth c H locs cells slots Q (F0 m pc ls st0) := by
  intro T hT X
  rcases hr T hT X with ⟨v, st₀, t, T', L, h0, X', hL, e1, e2, ⟨⟨u, hv, hp, hb⟩, hF⟩, st⟩ | ⟨q, st₀, t, T', L, E, ce, h0, X', hL, e1, e2, ⟨u, hp, hb, hF⟩, hce, hcv, hcl, st⟩
  · cases hv
    obtain ⟨k1, k2, k3⟩ := vx_keep h0 e1 hS hA hf hL hF
    obtain ⟨t2, a1, b1⟩ := kk u t T'.heap (locs ++ L) e1.symm (by rw [← e2]; exact X'.warmed.alike) hp hb k1 k2 k3 T' rfl X'
    exact ⟨t2, st t2 a1, b1⟩
  · obtain ⟨k1, k2, k3⟩ := vx_keep h0 e1 hS hAX hf hL hF
    obtain ⟨t2, a1, b1⟩ := kx E ce q u t T'.heap (locs ++ L) e1.symm (by rw [← e2]; exact X'.warmed.alike) hp hb k1 k2 k3 (by rw [e1]; exact hce) hcv hcl T' rfl X'
    exact ⟨t2, st.trans a1, b1⟩
/-- caught by the row x of this method's table; the rows ahead don't take it -/
theorem vx_catch {own name : String} {E : String} {ce : Cell} {q : Addr} (hown : s.vm.findClass own = some m.cls) (pre : List ExceptionTableEntry) (x : ExceptionTableEntry) (suf : List ExceptionTableEntry) (hsplit : c.exceptionTable.toList = pre ++ x :: suf)
    (hpass : ∀ z ∈ pre, covers z pc = false ∨ (z.catchType ≠ 0 ∧ ∃ nm : String, (Cond.classLink own z.catchType nm).before args s = true ∧ va_Nc E nm s)) (hx : covers x pc = true) (h0 : x.catchType ≠ 0)
    (hlink : (Cond.classLink own x.catchType name).before args s = true) (hcast : (Cond.castable E name).before args s = true) (hcell : H[q]? = some ce) (hv : ce.vm = .none) (hcl : s.vm.findClass E = some ce.cls)
    (kk : W p l e R s m args below meth c H locs cells slots Q (F0 m x.handlerPc ls [.ref q])) : vx_W p l e R s m args below meth c H locs cells slots Q (F0 m pc ls rest) q := by
  intro T hT X
  have hpl : e.platform.magicAccessors = ({} : Platform).magicAccessors := by rw [X.admits.platform]
  obtain ⟨c3, c4, hc3, hc4, hasg⟩ := Cond.castable_spec hcast
  cases Option.some.inj (hc3.symm.trans hcl)
  obtain ⟨c5, hc5, hcl5⟩ := Cond.classLink_spec hown hlink e.platform hpl
  cases Option.some.inj (hc4.symm.trans hc5)
  obtain ⟨vm', X', st⟩ := X.thenCaughtThrough q (g := F0 m pc ls rest) rfl (Steps.refl _) (by rw [hT]; exact hcell) (by rw [hv]; rfl) (by obtain ⟨k9, h9, -⟩ := Vm.findClass_spec hcl; exact ⟨k9, h9⟩) pre x suf hsplit
    (fun z hz => by
      rcases hpass z hz with h | ⟨hz0, nm, hl1, hn1⟩
      · exact Or.inl h
      · obtain ⟨c6, hc6, hcl6⟩ := Cond.classLink_spec hown hl1 e.platform hpl
        obtain ⟨a8, b8, h1, h2, h3⟩ := hn1
        cases Option.some.inj (h1.symm.trans hcl)
        cases Option.some.inj (h2.symm.trans hc6)
        exact Or.inr ⟨hz0, _, hcl6, h3⟩) hx (Or.inr ⟨h0, c4, hcl5, hasg⟩)
  obtain ⟨t, a1, b1⟩ := kk (T.setVm vm') hT X'
  exact ⟨t, st.trans a1, b1⟩
end Rows
section Ends
variable {p : Program} {l : Launch} {e : Env} {R : Room} {s : State} {m : MethodId} {args : Array Value} {below : List Frame} {meth : Method} {c : Code} {H : Heap} {locs : List Loc} {cells slots : Nat} {Q : State → Prop}
variable {mc ms : Nat} {free : Addr → Prop} {A0 A1 : Nat → Prop} {H0 : Heap} {a : Array Value} {ls : Array Slot} {st0 rest : List Value}
variable {Qc : Array Value → State → Outcome → State → Prop} {XC : String → State → State → Prop}
/-- what a body that may throw owes at its end -/
def vx_MQ (below : List Frame) (Qc : Array Value → State → Outcome → State → Prop) (XC : String → State → State → Prop) (a : Array Value) (s : State) (mc ms : Nat) (free : Addr → Prop) : State → Prop := fun t =>
  ∃ o, t.status = .running ∧ Ended t below o ∧ vx_Q Qc XC mc ms free a s o t
theorem vx_ret {g : JFrame} {mc ms : Nat} (k : W p l e R s m args below meth c H locs cells slots (MQ below Qc args s mc ms free) g) : W p l e R s m args below meth c H locs cells slots (vx_MQ below Qc XC args s mc ms free) g := by
  intro T hT X
  obtain ⟨t, a1, o, b1, b2, b3, b4⟩ := k T hT X
  exact ⟨t, a1, o, b1, b2, Or.inl ⟨b3, b4⟩⟩
/-- not caught here: it goes on to the caller -/
theorem vx_widen {g : JFrame} {q : Addr} {k n : Nat} (h1 : cells ≤ k) (h2 : slots ≤ n) (kk : vx_W p l e R s m args below meth c H locs k n Q g q) : vx_W p l e R s m args below meth c H locs cells slots Q g q := fun T hT X => kk T hT (stand_widen X h1 h2)
theorem vx_out {pc : Nat} {E : String} {ce : Cell} {q : Addr} {mc ms : Nat} (hout : ∀ x ∈ c.exceptionTable.toList, covers x pc = false) (hlocks : meth.locks = false) (hcell : H[q]? = some ce) (hv : ce.vm = .none) (hcl : s.vm.findClass E = some ce.cls)
    (hx : ∀ t : State, t.heap = H → s.vm.Alike t.vm → XC E s t) (hf : ∀ z ∈ locs, free z.base) (hc : cells ≤ mc) (hs : slots ≤ ms) :
    vx_W p l e R s m args below meth c H locs cells slots (vx_MQ below Qc XC args s mc ms free) (F0 m pc ls rest) q := by
  intro T hT X
  obtain ⟨st1, hrun, hend, hW, hsm⟩ := X.leaveThrown q (g := F0 m pc ls rest) rfl rfl rfl hout hlocks
  have hcell9 : (T.setFrames (.throwing q :: below)).heap[q]? = some ce := by
    show T.heap[q]? = some ce
    rw [hT]; exact hcell
  exact ⟨_, st1, .threw q, hrun, hend, Or.inr ⟨q, rfl, E, ce, locs, hx _ hT hW.alike, hcell9, hv, hcl, hW, hsm.mono hc hs, hf⟩⟩
theorem vx_frame {U : State} {k n : Nat} (h : s.sameButNew ({ U with vm := s.vm } : State) locs k n) : s.heap.size ≤ U.heap.size ∧ ∀ q : Nat, q < s.heap.size → (∀ z ∈ locs, z.base ≠ q) → U.heap[q]? = s.heap[q]? := by
  obtain ⟨-, h2, -, -, -, h6⟩ := h
  refine ⟨h2, fun q hq hz => ?_⟩
  obtain ⟨c9, e1, e2, e3, e4⟩ := h6 q _ (Array.getElem?_eq_getElem hq)
  have hs : c9.slots = (s.heap[q]).slots := Array.ext_getElem? fun i => e4 i fun hm => hz _ hm rfl
  have h9 : c9 = s.heap[q] := by
    rw [hs] at e2
    exact e2
  have e5 : U.heap[q]? = some c9 := e1
  rw [e5, h9, Array.getElem?_eq_getElem hq]
/-- the words of a throw but the four that speak of the heap -/
def vx_no (w : Cond) : Bool := decide (w ≠ .isRef (.static Bundle.tN "UNASSIGNED_STACK" Bundle.steD)) && decide (w ≠ .isRef (.static Bundle.tN "SUPPRESSED_SENTINEL" Bundle.listD)) && decide (w ≠ .laysStatic Bundle.tN "UNASSIGNED_STACK" Bundle.steD) && decide (w ≠ .laysStatic Bundle.tN "SUPPRESSED_SENTINEL" Bundle.listD)
def vx_at0 (own : String) (ic : Nat) (X : String) (names : List String) : List Cond := (Bundle.ownAtoms0 own ic X names).filter vx_no
def vx_atS (own : String) (ic : Nat) (X : String) (names : List String) : List Cond := (Bundle.ownAtoms own ic X names).filter vx_no
/-- a word that the tables alone decide, or a good one -/
def vx_ot (w : Cond) : Bool := w.onTables || goodWord w
theorem vx_ot_at {args a' : Array Value} {s U : State} {w : Cond} (hW : s.WarmedH U.vm) (hvm : s.vm = U.vm) (hg : vx_ot w = true) (h : w.before args s = true) : w.before a' U = true := by
  simp only [vx_ot, Bool.or_eq_true] at hg
  rcases hg with hg | hg
  · exact va_tabs hg hvm h
  · exact word_at hW (good_of_word hg) h
/-- a list's words: the good ones out of the method's own list, the others by premises of their own -/
theorem vx_hat {args : Array Value} {s : State} {L B : List Cond} (h1 : ∀ w ∈ L.filter goodWord, w.before args s = true) (h2 : ∀ w ∈ L.filter (fun w => !goodWord w), w ∈ B) (h3 : ∀ w ∈ B, w.before args s = true) : ∀ w ∈ L, w.before args s = true := by
  intro w hw
  by_cases g : goodWord w = true
  · exact h1 w (List.mem_filter.mpr ⟨hw, g⟩)
  · refine h3 w (h2 w (List.mem_filter.mpr ⟨hw, ?_⟩))
    show (!goodWord w) = true
    cases hgw : goodWord w
    · rfl
    · exact absurd hgw g
theorem vx_c {args : Array Value} {s : State} {w : Cond} {B : List Cond} (h : w.before args s = true) (t : ∀ w ∈ B, w.before args s = true) : ∀ w' ∈ w :: B, w'.before args s = true := fun w' h' => (List.mem_cons.mp h').elim (fun e => by rw [e]; exact h) (t w')
theorem vx_n {args : Array Value} {s : State} : ∀ w ∈ ([] : List Cond), w.before args s = true := fun _ h => nomatch h
theorem vx_own {args : Array Value} {s : State} {L : List Cond} (h1 : ∀ w ∈ L.filter vx_no, w.before args s = true)
    (hU : (Cond.isRef (.static Bundle.tN "UNASSIGNED_STACK" Bundle.steD)).before args s = true) (hN : (Cond.isRef (.static Bundle.tN "SUPPRESSED_SENTINEL" Bundle.listD)).before args s = true)
    (lU : (Cond.laysStatic Bundle.tN "UNASSIGNED_STACK" Bundle.steD).before args s = true) (lN : (Cond.laysStatic Bundle.tN "SUPPRESSED_SENTINEL" Bundle.listD).before args s = true) : ∀ w ∈ L, w.before args s = true := by
  intro w hw
  by_cases e1 : w = .isRef (.static Bundle.tN "UNASSIGNED_STACK" Bundle.steD)
  · rw [e1]; exact hU
  · by_cases e2 : w = .isRef (.static Bundle.tN "SUPPRESSED_SENTINEL" Bundle.listD)
    · rw [e2]; exact hN
    · by_cases e3 : w = .laysStatic Bundle.tN "UNASSIGNED_STACK" Bundle.steD
      · rw [e3]; exact lU
      · by_cases e4 : w = .laysStatic Bundle.tN "SUPPRESSED_SENTINEL" Bundle.listD
        · rw [e4]; exact lN
        · exact h1 w (List.mem_filter.mpr ⟨hw, by unfold vx_no; rw [decide_eq_true e1, decide_eq_true e2, decide_eq_true e3, decide_eq_true e4]; rfl⟩)
/-- where a static field lies, its class's statics cell in H -/
def vx_L (C n d : String) (A : Nat → Prop) (U : State) (H : Heap) : Prop := ∃ (c : ClassId) (k : Class) (i : Nat) (f : Field) (a : Nat) (cell : Cell), U.vm.findClass C = some c ∧ U.fieldFound? C n d = some (c, k, i, f) ∧ f.isStatic = true ∧ k.statics = some a ∧ H[a]? = some cell ∧ cell.vm.isStatics = true ∧ cell.cls = c ∧ f.slot < cell.slots.size ∧ k.staticTypes[f.slot]? = some f.type ∧ ¬ A a
theorem vx_L.moved {C n d : String} {A : Nat → Prop} {u U : State} {H : Heap} (hvm : u.vm.Alike U.vm) (h : vx_L C n d A u H) : vx_L C n d A U H := by
  obtain ⟨c, k, i, f, a, cell, h1, h2, h3, h4, h5, h6, h7, h8, h9, h10⟩ := h
  obtain ⟨k', hi', he⟩ := State.fieldFound?_setVm hvm h2
  exact ⟨c, k', i, f, a, cell, by rw [hvm.findClass]; exact h1, hi', h3, by rw [he]; exact h4, h5, h6, h7, h8, by rw [he]; exact h9, h10⟩
theorem vx_L.kept {C n d : String} {A : Nat → Prop} {U : State} {H H1 : Heap} (h : vx_L C n d A U H) (hq : ∀ a : Nat, a < H.size → ¬ A a → H1[a]? = H[a]?) : vx_L C n d A U H1 := by
  obtain ⟨c, k, i, f, a, cell, h1, h2, h3, h4, h5, h6, h7, h8, h9, h10⟩ := h
  exact ⟨c, k, i, f, a, cell, h1, h2, h3, h4, by rw [hq a (Array.getElem?_eq_some_iff.mp h5).1 h10]; exact h5, h6, h7, h8, h9, h10⟩
theorem vx_L.narrow {C n d : String} {A B : Nat → Prop} {U : State} {H : Heap} (h : vx_L C n d A U H) (hAB : ∀ q, B q → A q) : vx_L C n d B U H := by
  obtain ⟨c, k, i, f, a, cell, h1, h2, h3, h4, h5, h6, h7, h8, h9, h10⟩ := h
  exact ⟨c, k, i, f, a, cell, h1, h2, h3, h4, h5, h6, h7, h8, h9, fun z => h10 (hAB _ z)⟩
theorem vx_L.word {C n d : String} {A : Nat → Prop} {s : State} {args : Array Value} (h : vx_L C n d A s s.heap) : (Cond.laysStatic C n d).before args s = true := by
  obtain ⟨c, k, i, f, a, cell, h1, h2, h3, h4, h5, h6, h7, h8, h9, -⟩ := h
  show (Cond.laysStatic C n d).holds args s none s [] = true
  exact Cond.laysStatic_of h1 h2 h3 h4 h5 h6 h7 h8 h9
/-- .. and what it holds: null or some reference -/
def vx_Zq (C n d : String) (A : Nat → Prop) (U : State) (H : Heap) : Prop := va_Zq C n d A U H ∧ vx_L C n d A U H
theorem vx_Zq.moved {C n d : String} {A : Nat → Prop} {u U : State} {H : Heap} (hvm : u.vm.Alike U.vm) (h : vx_Zq C n d A u H) : vx_Zq C n d A U H := ⟨va_Zq.moved hvm h.1, vx_L.moved hvm h.2⟩
theorem vx_Zq.kept {C n d : String} {A : Nat → Prop} {U : State} {H H1 : Heap} (h : vx_Zq C n d A U H) (hq : ∀ a : Nat, a < H.size → ¬ A a → H1[a]? = H[a]?) : vx_Zq C n d A U H1 := ⟨va_Zq.kept h.1 hq, vx_L.kept h.2 hq⟩
theorem vx_Zq.narrow {C n d : String} {A B : Nat → Prop} {U : State} {H : Heap} (h : vx_Zq C n d A U H) (hAB : ∀ q, B q → A q) : vx_Zq C n d B U H := ⟨va_Zq.narrow h.1 hAB, vx_L.narrow h.2 hAB⟩
theorem vx_Zqof {args : Array Value} {s : State} {C n d : String} {A : Nat → Prop} (hl : (Cond.laysStatic C n d).before args s = true) (hini : (Cond.initialized C).before args s = true) (h : (Cond.isRef (.static C n d)).before args s = true) (hA : ∀ a : Nat, a < s.heap.size → ¬ A a) : vx_Zq C n d A s s.heap := by
  refine ⟨va_Zqof hl hini h hA, ?_⟩
  obtain ⟨c, k, i, f, a, cell, h1, h2, h3, h4, h5, h6, h7, h8, h9⟩ := Cond.laysStatic_spec hl
  exact ⟨c, k, i, f, a, cell, h1, h2, h3, h4, h5, h6, h7, h8, h9, hA a (Array.getElem?_eq_some_iff.mp h5).1⟩
theorem vx_isRef {C n d : String} {v : Value} {A : Nat → Prop} {s : State} {args : Array Value} (h : va_Z C n d v A s s.heap) (hv : v.isRef = true) : (Cond.isRef (.static C n d)).before args s = true := by
  obtain ⟨cf, kf, fi, f, a, cell, h1, h2, h3, h4, h5, h6, h7, -⟩ := h
  have he : (Term.static C n d).eval args s none [] s = some v := by
    simp [Term.eval, State.fieldNamed?, h1, h2, h4, h5, h6, h7]
  simp only [Cond.before, Cond.holds, Cond.value, he]
  cases v <;> simp_all [Value.isRef]
theorem vx_isRefq {C n d : String} {A : Nat → Prop} {s : State} {args : Array Value} (h : va_Zq C n d A s s.heap) : (Cond.isRef (.static C n d)).before args s = true := by
  rcases h with h | ⟨t, h⟩
  · exact vx_isRef h rfl
  · exact vx_isRef h rfl
/-- the same frame, seen from here: as if the method were called anew in this heap -/
theorem vx_rebase {T : State} (X : Stand p l e R s m args below meth c T locs cells slots) {R' : Room} (hf : R'.frames ≤ R.frames) (hl : R'.locals ≤ R.locals) (hc : cells + R'.cells ≤ R.cells) (hs : slots + R'.slots ≤ R.slots) :
    Stand p l e R' ((T.setVm s.vm).setFrames (.invoking m args :: below)) m args below meth c T [] 0 0 := by
  have htop : (T.setVm s.vm).topJava?.isSome := X.here.top
  have hF : ((T.setVm s.vm).setFrames (.invoking m args :: below)).frames = .invoking m args :: below := State.frames_setFrames _ (State.cur_lt_of_top htop)
  obtain ⟨g₀, hg0⟩ := Option.isSome_iff_exists.mp htop
  obtain ⟨r, hr⟩ := State.topJava?_eq_some.mp hg0
  have hl9 : e.platform.stackLimits (T.setVm s.vm).me = e.platform.stackLimits s.me := X.limits
  have hb9 : (T.setVm s.vm).me.stackBytes = s.me.stackBytes := X.bytes
  refine ⟨X.admits, X.cas, X.clock, hF, ?_, X.hears, X.method, X.code, X.here, X.tail, X.warmed, ?_, ?_, ?_⟩
  · have h := X.room
    have hU : ((T.setVm s.vm).setFrames (.invoking m args :: below)).localsInUse = s.localsInUse := by
      rw [State.localsInUse_invoking hF (meth := meth) (c := c) X.method X.code, State.localsInUse_invoking X.frames X.method X.code]
    simp only [State.hasRoom, Bool.and_eq_true, decide_eq_true_eq] at h ⊢
    obtain ⟨⟨⟨⟨h1, h2, h3, h4, h5, h6⟩, h7⟩, h8⟩, h9⟩ := h
    rw [X.frames, List.length_cons] at h2 h3
    have q1 := X.heapSize
    have q2 := X.used
    simp only [hF, hU, List.length_cons, State.stackLimits_setFrames, State.stackBytes_setFrames, hl9, hb9]
    refine ⟨⟨⟨⟨by omega, by omega, by omega, by omega, by omega, h6⟩, ?_⟩, ?_⟩, X.book⟩
    · show T.heap.size + R'.cells ≤ e.platform.maxCells
      omega
    · show T.slotsUsed + R'.slots ≤ e.platform.maxSlots
      omega
  · rw [State.stackLimits_setFrames]; rfl
  · rw [State.stackBytes_setFrames]; rfl
  · refine ⟨?_, Nat.le_refl _, Nat.le_refl _, ?_, ?_, fun a c9 h9 => ⟨c9, h9, rfl, rfl, fun _ _ => rfl⟩⟩
    · obtain ⟨t, ht, -⟩ := State.frames_cons hr
      show T.setVm s.vm = { ((T.setVm s.vm).setFrames (.invoking m args :: below)).setFrames (T.setVm s.vm).frames with heap := T.heap, slotsUsed := T.slotsUsed }
      rw [State.setFrames_setFrames, State.setFrames_self ht]
      rfl
    · show T.slotsUsed = T.slotsUsed + ((T.heap.toList.drop T.heap.size).map (·.slots.size)).sum
      rw [List.drop_eq_nil_of_le (Nat.le_of_eq Array.length_toList)]
      rfl
    · show ((T.heap.toList.drop T.heap.size).map (·.slots.size)).sum ≤ 0
      rw [List.drop_eq_nil_of_le (Nat.le_of_eq Array.length_toList)]
      exact Nat.le_refl _
/-- 'throw new E()': new; dup; invokespecial; athrow -/
theorem vx_throw0 {cc : ByteArray} {pc : Nat} (hexec : p.tables.exec = Jvm.exec) (hb : c.code = cc) (hl : l.stackTraces = false) {own cls : String} {names : List String} {ik ic mc ms : Nat} {A : Nat → Prop}
    (hown : s.vm.findClass own = some m.cls) (hcls : Bundle.fit cls = true) (hnames : ∀ n ∈ names, Bundle.fit n = true)
    (hk : (Cond.classLink own ik cls).before args s = true) (hini : (Cond.initialized cls).before args s = true) (hat : ∀ w ∈ vx_at0 own ic cls names, w.before args s = true)
    (hgood : ∀ w ∈ Cond.classLink own ik cls :: Cond.initialized cls :: vx_at0 own ic cls names, vx_ot w = true)
    (hU : vx_Zq Bundle.tN "UNASSIGNED_STACK" Bundle.steD A s s.heap) (hN : vx_Zq Bundle.tN "SUPPRESSED_SENTINEL" Bundle.listD A s s.heap) (hS : va_S A s.heap H locs) (hsize : ls.size = c.maxLocals)
    (d0 : decode cc pc = .ok (.new ik, 3)) (d3 : decode cc (pc + 3) = .ok (.dup, 1)) (d4 : decode cc (pc + 4) = .ok (.invokespecial ic, 3)) (d7 : decode cc (pc + 7) = .ok (.athrow, 1))
    (hout : ∀ x ∈ c.exceptionTable.toList, covers x (pc + 7) = false)
    (hRframes : names.length + 3 < R.frames) (hRlocals : (rest.map fun v => v.category).sum + (13 * (names.length + 1) + 42) ≤ R.locals) (hRcells : cells + 1 ≤ R.cells) (hRslots : slots + 6 ≤ R.slots) (hlocks : meth.locks = false)
    (hx : ∀ t : State, s.vm.Alike t.vm → H.size ≤ t.heap.size → (∀ q : Nat, q < H.size → t.heap[q]? = H[q]?) → XC cls s t)
    (hf : ∀ z ∈ locs, free z.base) (hc : cells + 1 ≤ mc) (hs : slots + 6 ≤ ms) :
    W p l e R s m args below meth c H locs cells slots (vx_MQ below Qc XC args s mc ms free) (F0 m pc ls rest) := by
  intro T hT X
  have htr : e.platform.stackTraces = false := (show e.platform.stackTraces = l.stackTraces by rw [X.admits.platform]).trans hl
  have Y := vx_rebase X (R' := { frames := R.frames, locals := R.locals, cells := 1, slots := 6 }) (Nat.le_refl _) (Nat.le_refl _) hRcells hRslots
  obtain ⟨s', hA⟩ : ∃ z, z = (T.setVm s.vm).setFrames (.invoking m args :: below) := ⟨_, rfl⟩
  rw [← hA] at Y
  have hvm : s'.vm = s.vm := by rw [hA]; rfl
  have hhp : s'.heap = H := by rw [hA]; exact hT
  have hW0 : s.WarmedH s'.vm := by rw [hvm]; exact State.WarmedH.refl s
  have hat' : ∀ w ∈ vx_at0 own ic cls names, w.before args s' = true := fun w hw => vx_ot_at hW0 hvm.symm (hgood w (List.mem_cons_of_mem _ (List.mem_cons_of_mem _ hw))) (hat w hw)
  have hk' : (Cond.classLink own ik cls).before args s' = true := vx_ot_at hW0 hvm.symm (hgood _ List.mem_cons_self) hk
  have hini' : (Cond.initialized cls).before args s' = true := vx_ot_at hW0 hvm.symm (hgood _ (List.mem_cons_of_mem _ List.mem_cons_self)) hini
  have hU' : vx_Zq Bundle.tN "UNASSIGNED_STACK" Bundle.steD A s' s'.heap := by rw [hhp]; exact vx_Zq.moved hW0.alike (hU.kept hS.2.1)
  have hN' : vx_Zq Bundle.tN "SUPPRESSED_SENTINEL" Bundle.listD A s' s'.heap := by rw [hhp]; exact vx_Zq.moved hW0.alike (hN.kept hS.2.1)
  have h : ∀ w ∈ Bundle.ownAtoms0 own ic cls names, w.before args s' = true := vx_own hat' (vx_isRefq hU'.1) (vx_isRefq hN'.1) hU'.2.word hN'.2.word
  have hown' : s'.vm.findClass own = some m.cls := by rw [hvm]; exact hown
  have hins : (Cond.instantiable cls 6).before args s' = true := h _ (by simp [Bundle.ownAtoms0])
  obtain ⟨vm₁, cX, kX, hfX, hkX, -, -, X₁, st1⟩ := Y.newCold hexec (own := own) (C := cls) (index := ik) (n := 6) hown' hk' hins hini'
    (g := F0 m pc ls rest) rfl (by rw [hb]; exact d0) (Nat.le_refl _) (Nat.le_refl _)
  generalize hT1 : (T.setVm vm₁).pushCell { cls := cX, slots := kX.instanceTypes.map defaultValue, vm := .none } = T1 at X₁ st1
  have hcat : (Value.ref T.heap.size).category = 1 := rfl
  have hcellA : T1.heap[T.heap.size]? = some (freshCell cX kX) := by rw [← hT1]; exact State.heap_pushCell_size _ _
  have d3' : decode c.code (pc + 3) = .ok (.dup, 1) := by rw [hb]; exact d3
  obtain ⟨U, hsteps, hrun, hend, hW, hsame, ce, hce, hO⟩ := X₁.ctorThrow0 hexec htr (own := own) (cls := cls) (names := names) (ic := ic) hown' hcls hnames h (fun x hx => nomatch hx) hfX hkX hcellA (by rw [hhp, hT]; exact Nat.le_refl _)
    (g := { method := m, pc := pc + 4, locals := ls, stack := .ref T.heap.size :: .ref T.heap.size :: rest, locked := none }) rfl hsize rfl rfl (rest := rest) rfl
    (by rw [hb]; exact d4) (by rw [hb]; exact d7) hout hRframes (by simp only [List.map_cons, List.sum_cons, hcat]; omega) hlocks
  obtain ⟨f1, f2⟩ := vx_frame hsame
  rw [hhp] at f1 f2
  have hWs : s.WarmedH U.vm := State.WarmedH.trans hW0 hW
  have hcl : s.vm.findClass cls = some ce.cls := by
    have h9 := hO.cls
    rw [hvm] at h9
    exact h9
  have hall : s.sameButNew ({ U with vm := s.vm } : State) locs mc ms := by
    subst hA
    obtain ⟨e1, e2⟩ := hsame
    rw [State.setFrames_setFrames] at e1
    have h2 : (T.setVm s.vm).sameButNew ({ U with vm := s.vm } : State) [] (0 + 1) (0 + 6) := ⟨e1, e2⟩
    have h3 := X.same.trans h2
    rw [List.append_nil] at h3
    exact h3.mono hc hs
  refine ⟨U, ?_, .threw T.heap.size, hrun, hend, Or.inr ⟨T.heap.size, rfl, cls, ce, locs, hx U hWs.alike f1 (fun q hq => f2 q hq (fun z hz => nomatch hz)), hce, hO.vm, hcl, hWs, hall, hf⟩⟩
  refine st1 _ ?_
  show Steps p.tables e below (T1.setTop { method := m, pc := pc + 3, locals := ls, stack := .ref T.heap.size :: rest, locked := none }) _
  jvm_step X₁.here [X₁.here.top, hexec, d3', Value.category]
  exact hsteps
/-- 'throw new E("text")': new; dup; ldc; invokespecial; athrow -/
theorem vx_throwS {cc : ByteArray} {pc : Nat} (hexec : p.tables.exec = Jvm.exec) (hb : c.code = cc) (hl : l.stackTraces = false) {own cls text : String} {names : List String} {ik is ic mc ms sa : Nat} {A : Nat → Prop}
    (hown : s.vm.findClass own = some m.cls) (hcls : Bundle.fit cls = true) (hnames : ∀ n ∈ names, Bundle.fit n = true)
    (hk : (Cond.classLink own ik cls).before args s = true) (hini : (Cond.initialized cls).before args s = true) (hstr : vk_R own is text sa s) (hat : ∀ w ∈ vx_atS own ic cls names, w.before args s = true)
    (hgood : ∀ w ∈ Cond.classLink own ik cls :: Cond.initialized cls :: vx_atS own ic cls names, vx_ot w = true)
    (hU : vx_Zq Bundle.tN "UNASSIGNED_STACK" Bundle.steD A s s.heap) (hN : vx_Zq Bundle.tN "SUPPRESSED_SENTINEL" Bundle.listD A s s.heap) (hS : va_S A s.heap H locs) (hsize : ls.size = c.maxLocals)
    (d0 : decode cc pc = .ok (.new ik, 3)) (d3 : decode cc (pc + 3) = .ok (.dup, 1)) (d4 : decode cc (pc + 4) = .ok (.ldc is, 2)) (d6 : decode cc (pc + 6) = .ok (.invokespecial ic, 3)) (d9 : decode cc (pc + 9) = .ok (.athrow, 1))
    (hout : ∀ x ∈ c.exceptionTable.toList, covers x (pc + 9) = false)
    (hRframes : names.length + 3 < R.frames) (hRlocals : (rest.map fun v => v.category).sum + (13 * (names.length + 1) + 43) ≤ R.locals) (hRcells : cells + 1 ≤ R.cells) (hRslots : slots + 6 ≤ R.slots) (hlocks : meth.locks = false)
    (hx : ∀ t : State, s.vm.Alike t.vm → H.size ≤ t.heap.size → (∀ q : Nat, q < H.size → t.heap[q]? = H[q]?) → XC cls s t)
    (hf : ∀ z ∈ locs, free z.base) (hc : cells + 1 ≤ mc) (hs : slots + 6 ≤ ms) :
    W p l e R s m args below meth c H locs cells slots (vx_MQ below Qc XC args s mc ms free) (F0 m pc ls rest) := by
  intro T hT X
  have htr : e.platform.stackTraces = false := (show e.platform.stackTraces = l.stackTraces by rw [X.admits.platform]).trans hl
  have Y := vx_rebase X (R' := { frames := R.frames, locals := R.locals, cells := 1, slots := 6 }) (Nat.le_refl _) (Nat.le_refl _) hRcells hRslots
  obtain ⟨s', hA⟩ : ∃ z, z = (T.setVm s.vm).setFrames (.invoking m args :: below) := ⟨_, rfl⟩
  rw [← hA] at Y
  have hvm : s'.vm = s.vm := by rw [hA]; rfl
  have hhp : s'.heap = H := by rw [hA]; exact hT
  have hW0 : s.WarmedH s'.vm := by rw [hvm]; exact State.WarmedH.refl s
  have hat' : ∀ w ∈ vx_atS own ic cls names, w.before args s' = true := fun w hw => vx_ot_at hW0 hvm.symm (hgood w (List.mem_cons_of_mem _ (List.mem_cons_of_mem _ hw))) (hat w hw)
  have hk' : (Cond.classLink own ik cls).before args s' = true := vx_ot_at hW0 hvm.symm (hgood _ List.mem_cons_self) hk
  have hini' : (Cond.initialized cls).before args s' = true := vx_ot_at hW0 hvm.symm (hgood _ (List.mem_cons_of_mem _ List.mem_cons_self)) hini
  have hU' : vx_Zq Bundle.tN "UNASSIGNED_STACK" Bundle.steD A s' s'.heap := by rw [hhp]; exact vx_Zq.moved hW0.alike (hU.kept hS.2.1)
  have hN' : vx_Zq Bundle.tN "SUPPRESSED_SENTINEL" Bundle.listD A s' s'.heap := by rw [hhp]; exact vx_Zq.moved hW0.alike (hN.kept hS.2.1)
  have h : ∀ w ∈ Bundle.ownAtoms own ic cls names, w.before args s' = true := vx_own hat' (vx_isRefq hU'.1) (vx_isRefq hN'.1) hU'.2.word hN'.2.word
  have hown' : s'.vm.findClass own = some m.cls := by rw [hvm]; exact hown
  have hins : (Cond.instantiable cls 6).before args s' = true := h _ (by simp [Bundle.ownAtoms])
  obtain ⟨vm₁, cX, kX, hfX, hkX, -, -, X₁, st1⟩ := Y.newCold hexec (own := own) (C := cls) (index := ik) (n := 6) hown' hk' hins hini'
    (g := F0 m pc ls rest) rfl (by rw [hb]; exact d0) (Nat.le_refl _) (Nat.le_refl _)
  generalize hT1 : (T.setVm vm₁).pushCell { cls := cX, slots := kX.instanceTypes.map defaultValue, vm := .none } = T1 at X₁ st1
  have hcat : (Value.ref T.heap.size).category = 1 := rfl
  have hcellA : T1.heap[T.heap.size]? = some (freshCell cX kX) := by rw [← hT1]; exact State.heap_pushCell_size _ _
  have d3' : decode c.code (pc + 3) = .ok (.dup, 1) := by rw [hb]; exact d3
  have d4' : decode c.code (pc + 4) = .ok (.ldc is, 2) := by rw [hb]; exact d4
  have hstr' : vk_R own is text sa s' := vk_R.warm hW0 hstr
  obtain ⟨U, hsteps, hrun, hend, hW, hsame, ce, hce, hO⟩ := X₁.ctorThrowS hexec htr (own := own) (cls := cls) (names := names) (ic := ic) hown' hcls hnames h (fun x hx => nomatch hx) hfX hkX hcellA (by rw [hhp, hT]; exact Nat.le_refl _) (msg := .ref sa) rfl
    (g := { method := m, pc := pc + 6, locals := ls, stack := .ref sa :: .ref T.heap.size :: .ref T.heap.size :: rest, locked := none }) rfl hsize rfl rfl (rest := rest) rfl
    (by rw [hb]; exact d6) (by rw [hb]; exact d9) hout hRframes (by simp only [List.map_cons, List.sum_cons, hcat]; omega) hlocks
  obtain ⟨f1, f2⟩ := vx_frame hsame
  rw [hhp] at f1 f2
  have hWs : s.WarmedH U.vm := State.WarmedH.trans hW0 hW
  have hcl : s.vm.findClass cls = some ce.cls := by
    have h9 := hO.cls
    rw [hvm] at h9
    exact h9
  have hall : s.sameButNew ({ U with vm := s.vm } : State) locs mc ms := by
    subst hA
    obtain ⟨e1, e2⟩ := hsame
    rw [State.setFrames_setFrames] at e1
    have h2 : (T.setVm s.vm).sameButNew ({ U with vm := s.vm } : State) [] (0 + 1) (0 + 6) := ⟨e1, e2⟩
    have h3 := X.same.trans h2
    rw [List.append_nil] at h3
    exact h3.mono hc hs
  refine ⟨U, ?_, .threw T.heap.size, hrun, hend, Or.inr ⟨T.heap.size, rfl, cls, ce, locs, hx U hWs.alike f1 (fun q hq => f2 q hq (fun z hz => nomatch hz)), hce, hO.vm, hcl, hWs, hall, hf⟩⟩
  refine st1 _ ?_
  show Steps p.tables e below (T1.setTop { method := m, pc := pc + 3, locals := ls, stack := .ref T.heap.size :: rest, locked := none }) _
  jvm_step X₁.here [X₁.here.top, hexec, d3', Value.category]
  exact X₁.ldcString hexec (own := own) (text := text) (index := is) (a := sa) hown' hstr'.1 hstr'.2
    (g := { method := m, pc := pc + 4, locals := ls, stack := .ref T.heap.size :: .ref T.heap.size :: rest, locked := none }) rfl d4' _ hsteps
/-- 'throw new E("text")', the text by a wide index -/
theorem vx_throwSW {cc : ByteArray} {pc : Nat} (hexec : p.tables.exec = Jvm.exec) (hb : c.code = cc) (hl : l.stackTraces = false) {own cls text : String} {names : List String} {ik is ic mc ms sa : Nat} {A : Nat → Prop}
    (hown : s.vm.findClass own = some m.cls) (hcls : Bundle.fit cls = true) (hnames : ∀ n ∈ names, Bundle.fit n = true)
    (hk : (Cond.classLink own ik cls).before args s = true) (hini : (Cond.initialized cls).before args s = true) (hstr : vk_R own is text sa s) (hat : ∀ w ∈ vx_atS own ic cls names, w.before args s = true)
    (hgood : ∀ w ∈ Cond.classLink own ik cls :: Cond.initialized cls :: vx_atS own ic cls names, vx_ot w = true)
    (hU : vx_Zq Bundle.tN "UNASSIGNED_STACK" Bundle.steD A s s.heap) (hN : vx_Zq Bundle.tN "SUPPRESSED_SENTINEL" Bundle.listD A s s.heap) (hS : va_S A s.heap H locs) (hsize : ls.size = c.maxLocals)
    (d0 : decode cc pc = .ok (.new ik, 3)) (d3 : decode cc (pc + 3) = .ok (.dup, 1)) (d4 : decode cc (pc + 4) = .ok (.ldc_w is, 3)) (d7 : decode cc (pc + 7) = .ok (.invokespecial ic, 3)) (d10 : decode cc (pc + 10) = .ok (.athrow, 1))
    (hout : ∀ x ∈ c.exceptionTable.toList, covers x (pc + 10) = false)
    (hRframes : names.length + 3 < R.frames) (hRlocals : (rest.map fun v => v.category).sum + (13 * (names.length + 1) + 43) ≤ R.locals) (hRcells : cells + 1 ≤ R.cells) (hRslots : slots + 6 ≤ R.slots) (hlocks : meth.locks = false)
    (hx : ∀ t : State, s.vm.Alike t.vm → H.size ≤ t.heap.size → (∀ q : Nat, q < H.size → t.heap[q]? = H[q]?) → XC cls s t)
    (hf : ∀ z ∈ locs, free z.base) (hc : cells + 1 ≤ mc) (hs : slots + 6 ≤ ms) :
    W p l e R s m args below meth c H locs cells slots (vx_MQ below Qc XC args s mc ms free) (F0 m pc ls rest) := by
  intro T hT X
  have htr : e.platform.stackTraces = false := (show e.platform.stackTraces = l.stackTraces by rw [X.admits.platform]).trans hl
  have Y := vx_rebase X (R' := { frames := R.frames, locals := R.locals, cells := 1, slots := 6 }) (Nat.le_refl _) (Nat.le_refl _) hRcells hRslots
  obtain ⟨s', hA⟩ : ∃ z, z = (T.setVm s.vm).setFrames (.invoking m args :: below) := ⟨_, rfl⟩
  rw [← hA] at Y
  have hvm : s'.vm = s.vm := by rw [hA]; rfl
  have hhp : s'.heap = H := by rw [hA]; exact hT
  have hW0 : s.WarmedH s'.vm := by rw [hvm]; exact State.WarmedH.refl s
  have hat' : ∀ w ∈ vx_atS own ic cls names, w.before args s' = true := fun w hw => vx_ot_at hW0 hvm.symm (hgood w (List.mem_cons_of_mem _ (List.mem_cons_of_mem _ hw))) (hat w hw)
  have hk' : (Cond.classLink own ik cls).before args s' = true := vx_ot_at hW0 hvm.symm (hgood _ List.mem_cons_self) hk
  have hini' : (Cond.initialized cls).before args s' = true := vx_ot_at hW0 hvm.symm (hgood _ (List.mem_cons_of_mem _ List.mem_cons_self)) hini
  have hU' : vx_Zq Bundle.tN "UNASSIGNED_STACK" Bundle.steD A s' s'.heap := by rw [hhp]; exact vx_Zq.moved hW0.alike (hU.kept hS.2.1)
  have hN' : vx_Zq Bundle.tN "SUPPRESSED_SENTINEL" Bundle.listD A s' s'.heap := by rw [hhp]; exact vx_Zq.moved hW0.alike (hN.kept hS.2.1)
  have h : ∀ w ∈ Bundle.ownAtoms own ic cls names, w.before args s' = true := vx_own hat' (vx_isRefq hU'.1) (vx_isRefq hN'.1) hU'.2.word hN'.2.word
  have hown' : s'.vm.findClass own = some m.cls := by rw [hvm]; exact hown
  have hins : (Cond.instantiable cls 6).before args s' = true := h _ (by simp [Bundle.ownAtoms])
  obtain ⟨vm₁, cX, kX, hfX, hkX, -, -, X₁, st1⟩ := Y.newCold hexec (own := own) (C := cls) (index := ik) (n := 6) hown' hk' hins hini'
    (g := F0 m pc ls rest) rfl (by rw [hb]; exact d0) (Nat.le_refl _) (Nat.le_refl _)
  generalize hT1 : (T.setVm vm₁).pushCell { cls := cX, slots := kX.instanceTypes.map defaultValue, vm := .none } = T1 at X₁ st1
  have hcat : (Value.ref T.heap.size).category = 1 := rfl
  have hcellA : T1.heap[T.heap.size]? = some (freshCell cX kX) := by rw [← hT1]; exact State.heap_pushCell_size _ _
  have d3' : decode c.code (pc + 3) = .ok (.dup, 1) := by rw [hb]; exact d3
  have d4' : decode c.code (pc + 4) = .ok (.ldc_w is, 3) := by rw [hb]; exact d4
  have hstr' : vk_R own is text sa s' := vk_R.warm hW0 hstr
  obtain ⟨U, hsteps, hrun, hend, hW, hsame, ce, hce, hO⟩ := X₁.ctorThrowS hexec htr (own := own) (cls := cls) (names := names) (ic := ic) hown' hcls hnames h (fun x hx => nomatch hx) hfX hkX hcellA (by rw [hhp, hT]; exact Nat.le_refl _) (msg := .ref sa) rfl
    (g := { method := m, pc := pc + 7, locals := ls, stack := .ref sa :: .ref T.heap.size :: .ref T.heap.size :: rest, locked := none }) rfl hsize rfl rfl (rest := rest) rfl
    (by rw [hb]; exact d7) (by rw [hb]; exact d10) hout hRframes (by simp only [List.map_cons, List.sum_cons, hcat]; omega) hlocks
  obtain ⟨f1, f2⟩ := vx_frame hsame
  rw [hhp] at f1 f2
  have hWs : s.WarmedH U.vm := State.WarmedH.trans hW0 hW
  have hcl : s.vm.findClass cls = some ce.cls := by
    have h9 := hO.cls
    rw [hvm] at h9
    exact h9
  have hall : s.sameButNew ({ U with vm := s.vm } : State) locs mc ms := by
    subst hA
    obtain ⟨e1, e2⟩ := hsame
    rw [State.setFrames_setFrames] at e1
    have h2 : (T.setVm s.vm).sameButNew ({ U with vm := s.vm } : State) [] (0 + 1) (0 + 6) := ⟨e1, e2⟩
    have h3 := X.same.trans h2
    rw [List.append_nil] at h3
    exact h3.mono hc hs
  refine ⟨U, ?_, .threw T.heap.size, hrun, hend, Or.inr ⟨T.heap.size, rfl, cls, ce, locs, hx U hWs.alike f1 (fun q hq => f2 q hq (fun z hz => nomatch hz)), hce, hO.vm, hcl, hWs, hall, hf⟩⟩
  refine st1 _ ?_
  show Steps p.tables e below (T1.setTop { method := m, pc := pc + 3, locals := ls, stack := .ref T.heap.size :: rest, locked := none }) _
  jvm_step X₁.here [X₁.here.top, hexec, d3', Value.category]
  exact X₁.ldcStringW hexec (own := own) (text := text) (index := is) (a := sa) hown' hstr'.1 hstr'.2
    (g := { method := m, pc := pc + 4, locals := ls, stack := .ref T.heap.size :: .ref T.heap.size :: rest, locked := none }) rfl d4' _ hsteps
end Ends
section Bodies
variable {l : Launch}
theorem vx_ofW {y : MethodName} {ws ws' : List Cond} {rm : Room} {Pc : Array Value → State → Prop} {Qc : Array Value → State → Outcome → State → Prop} {XC : String → State → State → Prop} {mc ms : Nat} {free : Addr → Prop} {cc : ByteArray} {maxL : Nat} {ret : Option FieldType}
    (hy : plainName y.cls = true) (hw : ws = Cond.code y cc maxL ret :: ws')
    (body : ∀ p e s m args below meth c s₁, BodyLoose p l y (headSpec ws rm) cc maxL ret e s m args below meth c s₁ → c.maxLocals = maxL → (∀ x ∈ c.exceptionTable.toList, False) → Pc args s →
      W p l e (headSpec ws rm).room s m args below meth c s.heap [] 0 0 (vx_MQ below Qc XC args s mc ms free) (entryFrame m args maxL)) : vx_Met l y ws rm Pc Qc XC mc ms free := by
  refine MetFree.of_bodyS (code := cc) (maxLocals := maxL) (ret := ret) hy ?_ ?_
  · intro args s m h hn
    obtain ⟨meth, c, h1, h2, h3, h4, h5, h6, -, -⟩ := Cond.code_spec hn (atoms_spec (ws := ws) h _ (by rw [hw]; exact List.mem_cons_self))
    exact ⟨meth, c, h1, h2, h3, h4, h5, h6⟩
  · intro p e s m args below meth c s₁ B hml hP _
    have hh0 : s₁.heap = s.heap := by rw [B.state]; rfl
    have ht : ∀ x ∈ c.exceptionTable.toList, False := by
      obtain ⟨meth9, c9, h1, h2, -, -, -, -, h7, -⟩ := Cond.code_spec B.named (atoms_spec (ws := ws) B.pre _ (by rw [hw]; exact List.mem_cons_self))
      cases Option.some.inj (h1.symm.trans B.method)
      cases Option.some.inj (h2.symm.trans (Stand.of_body B).code)
      intro x hx
      rw [Array.isEmpty_iff.mp h7] at hx
      cases hx
    obtain ⟨t, a1, o, b1, b2, b3⟩ := body p e s m args below meth c s₁ B hml ht hP s₁ hh0 (Stand.of_body B)
    exact ⟨t, o, a1, b1, b2, b3⟩
/-- the table of a body with handlers -/
theorem vx_table {p : Program} {x y : MethodName} {S : Spec} {cc bytes : ByteArray} {maxL maxL' : Nat} {ret ret' : Option FieldType} {e : Env} {s s₁ : State} {m : MethodId} {args : Array Value} {below : List Frame} {meth : Method} {c : Code} {hh : List (Nat × Nat × Nat × Nat)}
    (B : BodyLoose p l y S cc maxL ret e s m args below meth c s₁) (h : (Cond.codeWith y bytes maxL' ret' hh).before args s = true) : c.exceptionTable.toList = tableOf hh := by
  obtain ⟨m9, meth9, c9, hn9, h1, h2, -, -, h6, -⟩ := Cond.codeWith_spec h
  cases Option.some.inj (hn9.symm.trans B.named)
  cases Option.some.inj (h1.symm.trans B.method)
  cases Option.some.inj (h2.symm.trans (Stand.of_body B).code)
  rw [← h6, table_eq]
end Bodies
end VXA
/-! ===== END ===== -/
/-! ===== BEGIN a static call of a method with an exception table ===== -/
section VXS
variable {p : Program} {l : Launch} {e : Env} {R : Room} {s : State} {m : MethodId} {args : Array Value} {below : List Frame} {meth : Method} {c : Code} {T : State} {H : Heap} {locs : List Loc} {cells slots : Nat}
abbrev vx_CSW (R : Room) (s : State) (args : Array Value) (own : String) (index : Nat) (y : MethodName) (bytes : ByteArray) (maxL : Nat) (ret : Option FieldType) (hh : List (Nat × Nat × Nat × Nat)) (ws : List Cond) (rm : Room) (mc ms n : Nat) : Prop :=
  (rm.cells = mc ∧ rm.slots = ms ∧ rm.frames + 1 ≤ R.frames ∧ 8 + (maxL + 11) + rm.locals ≤ R.locals ∧ (∀ w ∈ ws, ∀ (a' : Array Value) (U : State), s.WarmedH U.vm → w.before a' U = true) ∧ Cond.codeWith y bytes maxL ret hh ∈ ws) ∧
  (Cond.codeWith y bytes maxL ret hh).before args s = true ∧ (Cond.initialized y.cls).before args s = true ∧ (y.cls ≠ "java/lang/invoke/MethodHandle" ∧ y.cls ≠ "java/lang/invoke/VarHandle") ∧
  (∀ sig, parseMethodDescriptor y.desc = some sig → n = sig.parameters.length) ∧ (Cond.methodLink own index y).before args s = true ∧ (Cond.static y).before args s = true
theorem vx_cwSW {own : String} {index maxL mc ms : Nat} {y : MethodName} {bytes : ByteArray} {ret : Option FieldType} {hh : List (Nat × Nat × Nat × Nat)} {Ts ws ws' : List Cond} {rm : Room} (n : Nat) (ht : ∀ w ∈ Ts, w.before args s = true) (hT : GoodIn Ts (va_wsS own index y ws)) (hw : ws = Cond.codeWith y bytes maxL ret hh :: ws') (hrc : rm.cells = mc) (hrs : rm.slots = ms)
    (hd : y.cls ≠ "java/lang/invoke/MethodHandle" ∧ y.cls ≠ "java/lang/invoke/VarHandle" ∧ (parseMethodDescriptor y.desc).map (fun d => d.parameters.length) = some n) (hR : rm.frames + 1 ≤ R.frames ∧ 8 + (maxL + 11) + rm.locals ≤ R.locals) :
    vx_CSW R s args own index y bytes maxL ret hh ws rm mc ms n := by
  have ok : ∀ w ∈ va_wsS own index y ws, w.before args s = true := fun w h => ht w (hT w h).1
  have hG : GoodIn Ts ws := fun w h => hT w (by unfold va_wsS; exact List.mem_append_right _ h)
  have hc : Cond.codeWith y bytes maxL ret hh ∈ ws := by rw [hw]; exact List.mem_cons_self
  refine ⟨⟨hrc, hrs, hR.1, hR.2, pay_in ht hG, hc⟩, ht _ (hG _ hc).1, ok _ (by simp [va_wsS]), ⟨hd.1, hd.2.1⟩, fun sig h => ?_, ok _ (by simp [va_wsS]), ok _ (by simp [va_wsS])⟩
  have h2 := hd.2.2
  rw [h] at h2
  exact (Option.some.inj h2).symm
theorem vx_callSW (X : Stand p l e R s m args below meth c T locs cells slots) (hexec : p.tables.exec = Jvm.exec) {own : String} {index : Nat} {y : MethodName} {bytes : ByteArray} {maxL : Nat} {ret : Option FieldType} {hh : List (Nat × Nat × Nat × Nat)}
    (hown : s.vm.findClass own = some m.cls) (hlink : (Cond.methodLink own index y).before args s = true) (hstat : (Cond.static y).before args s = true) (hinit : (Cond.initialized y.cls).before args s = true)
    (hcode : (Cond.codeWith y bytes maxL ret hh).before args s = true) (hy : y.cls ≠ "java/lang/invoke/MethodHandle" ∧ y.cls ≠ "java/lang/invoke/VarHandle")
    {W9 : Nat} {Pre : Pt → Array Value → Prop} {Post : Pt → Array Value → Option Value → Pt → Prop} (hK : Back l R p e below s args y 3 W9 Pre Post)
    {g : JFrame} (hg : g.method = m) (hsize : g.locals.size = c.maxLocals) {argsL rest : List Value} (hlen : ∀ sig, parseMethodDescriptor y.desc = some sig → argsL.length = sig.parameters.length)
    (hstack : g.stack = argsL.reverse ++ rest) (hW : 2 * g.monitorRoom + (rest.map fun v => v.category).sum ≤ W9) (hdg : decode c.code g.pc = .ok (.invokestatic index, 3))
    (hpre : ∀ vm₁, s.WarmedH vm₁ → Pre ⟨T.setVm vm₁, locs, cells, slots⟩ argsL.toArray) :
    ∃ (v : Option Value) (vm₁ : Vm) (B : Pt), s.WarmedH vm₁ ∧ Stand p l e R s m args below meth c B.U B.locs B.cells B.slots ∧ Post ⟨T.setVm vm₁, locs, cells, slots⟩ argsL.toArray v B ∧
      ∀ target, Steps p.tables e below (B.U.setTop { g with pc := g.pc + 3, stack := v.toList ++ rest }) target → Steps p.tables e below (T.setTop g) target := by
  obtain ⟨mk, methM, cM, hnamed, hmethM, -, -, -, -, -, -, hsigM⟩ := Cond.codeWith_spec hcode
  have hstatic : methM.isStatic = true := Cond.static_spec hnamed hmethM hstat
  obtain ⟨kP, hkP, -⟩ := className_of_methodNamed hnamed
  have hinitP : kP.init = .initialized := Cond.initialized_spec (findClass_of_methodNamed hnamed) hkP hinit
  obtain ⟨vm₁, X₁, hstep₁⟩ := X.invokestatic hexec hown hlink hnamed hmethM hstatic hkP hinitP hy (g := g) hg (argsL := argsL) (rest := rest) (hlen _ hsigM) hstack hdg
  obtain ⟨v, B, X', hpost, hsteps⟩ := hK m meth c ⟨T.setVm vm₁, locs, cells, slots⟩ { g with stack := rest } (.invokestatic index) mk argsL.toArray X₁ hg hsize hdg hW (X₁.named hnamed) (hpre vm₁ X₁.warmed)
  exact ⟨v, vm₁, B, X₁.warmed, X', hpost, fun target h => hstep₁ _ fun acts => by rw [doInvoke_state]; exact hsteps.trans h⟩
theorem vx_runSW {y : MethodName} {bytes cc : ByteArray} {maxL nL mc ms n index : Nat} {ret : Option FieldType} {hh : List (Nat × Nat × Nat × Nat)} {ws : List Cond} {rm : Room} {Pc : Array Value → State → Prop} {Qc : Array Value → State → Outcome → State → Prop} {free : Addr → Prop} {Ts : List Cond} {own : String} {As rest : List Value} {g : JFrame}
    (S : CallFix p m c cc nL s args Ts own) (hM : Met l y ws rm Pc Qc mc ms free) (cw : vx_CSW R s args own index y bytes maxL ret hh ws rm mc ms n) (hp : PreS s H Pc As)
    (hg : g.method = m) (hn : As.length = n) (hsize : g.locals.size = nL) (hstack : g.stack = As.reverse ++ rest) (hW : 2 * g.monitorRoom + (rest.map fun v => v.category).sum ≤ 8) (hdg : decode cc g.pc = .ok (.invokestatic index, 3)) (hf : cells + mc ≤ R.cells ∧ slots + ms ≤ R.slots) :
    va_Run p l e R s m args below meth c H locs cells slots mc ms g rest (Qc As.toArray) (free) := by
  obtain ⟨⟨hrc, hrs, hfr, hlo, hws, hcw⟩, hcode, hini, hy, hlen, hl, hstt⟩ := cw
  have hK : Back l R p e below s args y 3 8 (PreOf R mc ms Pc) (PostOf Qc mc ms free) := va_backW (hh := hh) (bytes := bytes) (maxL := maxL) (ret := ret) hM hp.1 hrc hrs hfr hlo hws hcw (fun a' U hW => word_at hW (Or.inl (by first | rfl | simp [Cond.onTables, Cond.keeps, Cond.steady])) hini)
  obtain ⟨hx, hb, hml, ho, -⟩ := S
  intro T hT X
  obtain ⟨v, vm₁, ⟨U', l2, c2, s2⟩, hW₁, X', ⟨g', mk, t, L, e1, e2, hq, h1, hL, h2, h3⟩, st⟩ := vx_callSW X hx (hh := hh) (bytes := bytes) (maxL := maxL) (ret := ret) ho hl hstt hini hcode hy hK hg (hsize.trans hml.symm) (argsL := As) (rest := rest) (fun sig h => hn.trans (hlen sig h)) hstack hW (by rw [hb]; exact hdg)
    (fun vm₁ hW₁ => ⟨hf.1, hf.2, hp.2 (T.setVm vm₁) hT hW₁⟩)
  dsimp only [Pt.U, Pt.locs, Pt.cells, Pt.slots] at X' e1 e2 h1 h2 h3 st
  subst h1; subst h2; subst h3
  exact ⟨v, (T.setVm vm₁).calling g' mk As.toArray, t, U', L, hT, X', hL, e1, e2, hq, st⟩
/-- not caught here, past rows that name other classes: it goes on to the caller -/
theorem vx_outP {p : Program} {l : Launch} {e : Env} {R : Room} {s : State} {m : MethodId} {args : Array Value} {below : List Frame} {meth : Method} {c : Code} {H : Heap} {locs : List Loc} {cells slots : Nat} {free : Addr → Prop} {ls : Array Slot} {rest : List Value} {Qc : Array Value → State → Outcome → State → Prop} {XC : String → State → State → Prop}
    {pc : Nat} {own E : String} {ce : Cell} {q : Addr} {mc ms : Nat} (hown : s.vm.findClass own = some m.cls) (hlocks : meth.locks = false)
    (hpass : ∀ z ∈ c.exceptionTable.toList, covers z pc = false ∨ (z.catchType ≠ 0 ∧ ∃ nm : String, (Cond.classLink own z.catchType nm).before args s = true ∧ va_Nc E nm s)) (hcell : H[q]? = some ce) (hv : ce.vm = .none) (hcl : s.vm.findClass E = some ce.cls)
    (hx : ∀ t : State, t.heap = H → s.vm.Alike t.vm → XC E s t) (hf : ∀ z ∈ locs, free z.base) (hc : cells ≤ mc) (hs : slots ≤ ms) :
    vx_W p l e R s m args below meth c H locs cells slots (vx_MQ below Qc XC args s mc ms free) (F0 m pc ls rest) q := by
  intro T hT X
  have hpl : e.platform.magicAccessors = ({} : Platform).magicAccessors := by rw [X.admits.platform]
  obtain ⟨vm', hW', X', st⟩ := X.outThrough hlocks q (g := F0 m pc ls rest) rfl rfl rfl (cell := ce) (by rw [hT]; exact hcell) (by rw [hv]; rfl)
    (by obtain ⟨k9, h9, -⟩ := Vm.findClass_spec hcl; exact ⟨k9, h9⟩) (fun z hz => by
      rcases hpass z hz with h | ⟨hz0, nm, hl1, hn1⟩
      · exact Or.inl h
      · obtain ⟨c6, hc6, hcl6⟩ := Cond.classLink_spec hown hl1 e.platform hpl
        obtain ⟨a8, b8, h1, h2, h3⟩ := hn1
        cases Option.some.inj (h1.symm.trans hcl)
        cases Option.some.inj (h2.symm.trans hc6)
        exact Or.inr ⟨hz0, _, hcl6, h3⟩)
  obtain ⟨g₀, hfr⟩ := X'.frames_eq
  have hcell9 : ((T.setVm vm').setFrames (.throwing q :: below)).heap[q]? = some ce := by
    show T.heap[q]? = some ce
    rw [hT]; exact hcell
  have hend : Ended ((T.setVm vm').setFrames (.throwing q :: below)) below (.threw q) := State.frames_setFrames _ (State.cur_lt_of_frames hfr)
  refine ⟨(T.setVm vm').setFrames (.throwing q :: below), ?_, .threw q, X'.here.running, hend, Or.inr ⟨q, rfl, E, ce, locs, hx _ hT (X'.ends _).1.alike, hcell9, hv, hcl, (X'.ends _).1, (X'.ends _).2.mono hc hs, hf⟩⟩
  rw [X.pushThrowing_eq]
  exact st
/-- a thing of a world lies in the heap -/
theorem vx_lt {D : va_G} {cl : List vw_C} {ws : va_W} {H1 : Heap} (h : va_P D cl ws H1) {k : Nat} {q : Nat × va_E} (hk : ws[k]? = some q) : q.1 < H1.size := (h k q hk).lt
end VXS
/-! ===== END ===== -/
/-! ===== BEGIN methods with a table of their own: called by a name, returning or throwing ===== -/
section VXH
/-! vx_backW, vx_callVX, vx_callSX, vx_callVW, vx_runVW, vx_runVX, vx_runSX, vx_ofWH follow the same proofs as their sisters above (Free/Laws.lean, Shelf42/LK1.lean); vx_outP calls Shelf42/NT130.lean (outThrough). -/
section
variable {l : Launch} {R : Room} {p : Program} {e : Env} {below : List Frame} {s : State} {sargs : Array Value} {y : MethodName} {len W9 : Nat}
theorem vx_backW {ws : List Cond} {rm : Room} {Pc : Array Value → State → Prop} {Qc : Array Value → State → Outcome → State → Prop} {XC : String → State → State → Prop} {mc ms : Nat} {free : Addr → Prop} {bytes : ByteArray} {maxL : Nat} {ret : Option FieldType} {hh : List (Nat × Nat × Nat × Nat)}
    (hM : vx_Met l y ws rm Pc Qc XC mc ms free) (hblind : FrameBlind Pc) (hrc : rm.cells = mc) (hrs : rm.slots = ms)
    (hframes : rm.frames + 1 ≤ R.frames) (hlocals : W9 + (maxL + 11) + rm.locals ≤ R.locals)
    (hws : ∀ w ∈ ws, ∀ a' U, s.WarmedH U.vm → w.before a' U = true) (hcode : Cond.codeWith y bytes maxL ret hh ∈ ws) (hinit : ∀ a' U, s.WarmedH U.vm → (Cond.initialized y.cls).before a' U = true) :
    vx_Back l R p e below s sargs y len W9 (PreOf R mc ms Pc) (PostOf Qc mc ms free) (vx_Post XC mc ms free) := by
  intro m meth c A g ig mk a X hg hsize hdg hW hn hp
  have h1 : (headSpec ws rm).pre.before a A.U = true := atoms_intro fun w hw => hws w hw _ _ X.warmed
  have h2 : (Cond.codeWith y bytes maxL ret hh).before a A.U = true := hws _ hcode _ _ X.warmed
  have h3 : (Cond.initialized y.cls).before a A.U = true := hinit _ _ X.warmed
  have h4 : A.cells + (headSpec ws rm).room.cells ≤ R.cells := by rw [show (headSpec ws rm).room.cells = mc from hrc]; exact hp.1
  have h5 : A.slots + (headSpec ws rm).room.slots ≤ R.slots := by rw [show (headSpec ws rm).room.slots = ms from hrs]; exact hp.2.1
  have hPc : Pc a (A.U.calling g mk a) := hblind _ _ _ _ hp.2.2
  obtain ⟨U, Ls, c0, s0⟩ := A
  dsimp only [Pt.U, Pt.locs, Pt.cells, Pt.slots] at h1 h2 h3 h4 h5 X hn hPc ⊢
  obtain ⟨m9, methY, cY, hn9, hmY, hcY, -, hlY, -⟩ := Cond.codeWith_spec h2
  cases Option.some.inj (hn9.symm.trans hn)
  obtain ⟨kY, hkY, -⟩ := className_of_methodNamed hn
  have hinitY : kY.init = .initialized := Cond.initialized_spec (findClass_of_methodNamed hn) hkY h3
  have h : At U g.method c below := by rw [hg]; exact X.here
  have hlocals9 : W9 + (maxL + 11) + (headSpec ws rm).room.locals ≤ R.locals := hlocals
  have happ : (headSpec ws rm).appliesLoose y e.platform (U.calling g mk a) = true :=
    Spec.appliesLoose_calling (g := g) h hdg hn hkY hinitY
      (X.room_calling (g := g) (R' := (headSpec ws rm).room) hsize hmY hcY hframes (by rw [hlY]; omega) h4 h5) h1
  obtain ⟨mid, hmid⟩ := h.above
  have hfr : (U.setTop g).frames = (.java g :: mid) ++ below := by rw [State.frames_setTop' g h.top, hmid]; rfl
  obtain ⟨o, s₂, hsteps, -, hend, hq⟩ := Steps.callFree hM p X.admits X.cas X.clock (acts := []) hfr happ hPc trivial
  have hq' : vx_Q Qc XC mc ms free a (U.calling g mk a) o s₂ := hq
  rw [State.frames_setTop' g h.top] at hend
  obtain ⟨g₀, hg0⟩ := Option.isSome_iff_exists.mp h.top
  obtain ⟨r, hr⟩ := State.topJava?_eq_some.mp hg0
  have hr' : (({ U with heap := s₂.heap, slotsUsed := s₂.slotsUsed } : State).setVm s₂.vm).frames = .java g₀ :: r := hr
  rcases hq' with ⟨hqc, L, hfe, hL⟩ | ⟨q, rfl, E, ce, L, hx, hce, hcv, hcl, hW₂, hsm, hL⟩
  · obtain ⟨⟨v, rfl⟩, hW₂, e2, q2, q3, q4, q5, q6⟩ := id hfe
    have e3 : s₂ = ({ (U.calling g mk a).setFrames s₂.frames with heap := s₂.heap, slotsUsed := s₂.slotsUsed } : State).setVm s₂.vm := by
      have : s₂ = ({ s₂ with vm := (U.calling g mk a).vm } : State).setVm s₂.vm := rfl
      rw [e2] at this
      exact this
    obtain ⟨c₂, i₂, len₂, hc₂, hd₂, hf₂⟩ := hend
    have hW' : U.WarmedH s₂.vm := hW₂
    have hcc : c₂ = c := by
      have h1 : s₂.code? g.method = U.code? g.method := by
        rw [State.code?_eq, State.code?_eq, hW'.alike.method?]
      exact Option.some.inj (hc₂.symm.trans (h1.trans h.code))
    subst hcc
    have hlen : len₂ = len := by rw [hdg] at hd₂; cases hd₂; rfl
    subst hlen
    have hs₂ : s₂ = (({ U with heap := s₂.heap, slotsUsed := s₂.slotsUsed } : State).setVm s₂.vm).setTop { g with pc := g.pc + len₂, stack := v.toList ++ g.stack } := by
      refine e3.trans ?_
      rw [hf₂, State.calling_eq h.top, State.setFrames_setFrames, State.setTop_of_frames _ hr', hr]
      rfl
    have hsame : U.sameButNew ({ U with heap := s₂.heap, slotsUsed := s₂.slotsUsed } : State) L mc ms := by
      refine ⟨?_, q2, q3, q4, q5, q6⟩
      obtain ⟨t, ht, -⟩ := State.frames_cons hr
      show ({ U with heap := s₂.heap, slotsUsed := s₂.slotsUsed } : State) = { U.setFrames U.frames with heap := s₂.heap, slotsUsed := s₂.slotsUsed }
      rw [State.setFrames_self ht]
    subst hg
    refine Or.inl ⟨v, ⟨(({ U with heap := s₂.heap, slotsUsed := s₂.slotsUsed } : State).setVm s₂.vm), Ls ++ L, c0 + mc, s0 + ms⟩,
      ⟨X.admits, X.cas, X.clock, X.frames, X.room, X.hears, X.method, X.code, (X.here.setHeapUsed s₂.heap s₂.slotsUsed).setVm hW'.alike, X.tail, State.WarmedH.trans X.warmed hW', X.limits, X.bytes, X.same.trans (hsame.setVm s.vm)⟩,
      ⟨g, mk, s₂, L, rfl, rfl, hqc, rfl, hL, rfl, rfl⟩, ?_⟩
    show Steps p.tables e below _ ((({ U with heap := s₂.heap, slotsUsed := s₂.slotsUsed } : State).setVm s₂.vm).setTop { g with pc := g.pc + len₂, stack := v.toList ++ g.stack })
    rw [← hs₂]
    exact hsteps
  · obtain ⟨e2, q2, q3, q4, q5, q6⟩ := id hsm
    have e3 : s₂ = ({ (U.calling g mk a).setFrames s₂.frames with heap := s₂.heap, slotsUsed := s₂.slotsUsed } : State).setVm s₂.vm := by
      have : s₂ = ({ s₂ with vm := (U.calling g mk a).vm } : State).setVm s₂.vm := rfl
      rw [e2] at this
      exact this
    have hf₂ : s₂.frames = .throwing q :: .java g :: U.frames.tail := hend
    have hW' : U.WarmedH s₂.vm := hW₂
    have hs₂ : s₂ = ((({ U with heap := s₂.heap, slotsUsed := s₂.slotsUsed } : State).setVm s₂.vm).setTop g).pushFrame (.throwing q) := by
      refine e3.trans ?_
      rw [hf₂, State.calling_eq h.top, State.setFrames_setFrames, State.pushFrame, State.frames_setTop _ hr', State.setTop_of_frames _ hr', State.setFrames_setFrames, hr]
      rfl
    have hsame : U.sameButNew ({ U with heap := s₂.heap, slotsUsed := s₂.slotsUsed } : State) L mc ms := by
      refine ⟨?_, q2, q3, q4, q5, q6⟩
      obtain ⟨t, ht, -⟩ := State.frames_cons hr
      show ({ U with heap := s₂.heap, slotsUsed := s₂.slotsUsed } : State) = { U.setFrames U.frames with heap := s₂.heap, slotsUsed := s₂.slotsUsed }
      rw [State.setFrames_self ht]
    subst hg
    refine Or.inr ⟨q, ⟨(({ U with heap := s₂.heap, slotsUsed := s₂.slotsUsed } : State).setVm s₂.vm), Ls ++ L, c0 + mc, s0 + ms⟩,
      ⟨X.admits, X.cas, X.clock, X.frames, X.room, X.hears, X.method, X.code, (X.here.setHeapUsed s₂.heap s₂.slotsUsed).setVm hW'.alike, X.tail, State.WarmedH.trans X.warmed hW', X.limits, X.bytes, X.same.trans (hsame.setVm s.vm)⟩,
      ⟨g, mk, s₂, L, E, ce, rfl, rfl, hx, hce, hcv, hcl, rfl, hL, rfl, rfl⟩, ?_⟩
    show Steps p.tables e below _ (((({ U with heap := s₂.heap, slotsUsed := s₂.slotsUsed } : State).setVm s₂.vm).setTop g).pushFrame (.throwing q))
    rw [← hs₂]
    exact hsteps
end
variable {p : Program} {l : Launch} {e : Env} {R : Room} {s : State} {m : MethodId} {args : Array Value} {below : List Frame} {meth : Method} {c : Code} {T : State} {H : Heap} {locs : List Loc} {cells slots : Nat}
theorem vx_callVX (X : Stand p l e R s m args below meth c T locs cells slots) (hexec : p.tables.exec = Jvm.exec) {own C : String} {index : Nat} {y : MethodName} {bytes : ByteArray} {maxL : Nat} {ret : Option FieldType} {hh : List (Nat × Nat × Nat × Nat)}
    (hown : s.vm.findClass own = some m.cls) (hlink : (Cond.methodLink own index y).before args s = true) (hinst : (Cond.instanceMethod y).before args s = true) (hsel : (Cond.selects C y y).before args s = true)
    (hcode : (Cond.codeWith y bytes maxL ret hh).before args s = true) (hy : y.cls ≠ "java/lang/invoke/MethodHandle" ∧ y.cls ≠ "java/lang/invoke/VarHandle")
    {W9 : Nat} {Pre : Pt → Array Value → Prop} {Post : Pt → Array Value → Option Value → Pt → Prop} {PostX : Pt → Array Value → Addr → Pt → Prop} (hK : vx_Back l R p e below s args y 3 W9 Pre Post PostX)
    {b : Addr} {cellB : Cell} (hcell : T.heap[b]? = some cellB) (hobj : cellB.vm.isStatics = false) (hcls : s.vm.findClass C = some cellB.cls)
    {g : JFrame} (hg : g.method = m) (hsize : g.locals.size = c.maxLocals) {argsL rest : List Value} (hlen : ∀ sig, parseMethodDescriptor y.desc = some sig → argsL.length = sig.parameters.length)
    (hstack : g.stack = argsL.reverse ++ .ref b :: rest) (hW : 2 * g.monitorRoom + (rest.map fun v => v.category).sum ≤ W9) (hdg : decode c.code g.pc = .ok (.invokevirtual index, 3))
    (hpre : ∀ vm₁, s.WarmedH vm₁ → Pre ⟨T.setVm vm₁, locs, cells, slots⟩ (Value.ref b :: argsL).toArray) :
    (∃ (v : Option Value) (vm₁ : Vm) (B : Pt), s.WarmedH vm₁ ∧ Stand p l e R s m args below meth c B.U B.locs B.cells B.slots ∧ Post ⟨T.setVm vm₁, locs, cells, slots⟩ (Value.ref b :: argsL).toArray v B ∧
      ∀ target, Steps p.tables e below (B.U.setTop { g with pc := g.pc + 3, stack := v.toList ++ rest }) target → Steps p.tables e below (T.setTop g) target) ∨
    (∃ (q : Addr) (vm₁ : Vm) (B : Pt), s.WarmedH vm₁ ∧ Stand p l e R s m args below meth c B.U B.locs B.cells B.slots ∧ PostX ⟨T.setVm vm₁, locs, cells, slots⟩ (Value.ref b :: argsL).toArray q B ∧
      Steps p.tables e below (T.setTop g) ((B.U.setTop { g with stack := rest }).pushFrame (.throwing q))) := by
  obtain ⟨mk, methM, hnamed, hmethM, hstM, habM⟩ := Cond.instanceMethod_spec hinst
  obtain ⟨m8, methM', cM, hn8, hmethM', -, -, -, -, -, -, hsigM⟩ := Cond.codeWith_spec hcode
  cases Option.some.inj (hn8.symm.trans hnamed)
  cases hmethM.symm.trans hmethM'
  obtain ⟨c2, r2, m2, q1, q2, q3, q4, kP, hkP, hkPi⟩ := Cond.selects_spec hsel
  cases hcls.symm.trans q1
  cases (State.methodFound?_of_named hnamed hy).symm.trans q2
  cases hnamed.symm.trans q3
  have hselP : selectMethod e.platform s.vm cellB.cls mk = .method mk := by rw [Launch.admits_selectMethod X.admits]; exact q4
  obtain ⟨vm₁, X₁, hstep₁⟩ := X.invokevirtual hexec hown hlink hnamed hmethM hstM hkP hkPi hy (a := b) (cell := cellB) hcell
    (fun z h => by rw [h] at hobj; cases hobj) hselP hmethM habM hkP hkPi (g := g) hg (argsL := argsL) (rest := rest) (hlen _ hsigM) hstack hdg
  rcases hK m meth c ⟨T.setVm vm₁, locs, cells, slots⟩ { g with stack := rest } (.invokevirtual index) mk (Value.ref b :: argsL).toArray X₁ hg hsize hdg hW (X₁.named hnamed) (hpre vm₁ X₁.warmed) with ⟨v, B, X', hpost, hsteps⟩ | ⟨q, B, X', hpost, hsteps⟩
  · exact Or.inl ⟨v, vm₁, B, X₁.warmed, X', hpost, fun target h => hstep₁ _ fun acts => by rw [doInvoke_state]; exact hsteps.trans h⟩
  · exact Or.inr ⟨q, vm₁, B, X₁.warmed, X', hpost, hstep₁ _ fun acts => by rw [doInvoke_state]; exact hsteps⟩
theorem vx_callSX (X : Stand p l e R s m args below meth c T locs cells slots) (hexec : p.tables.exec = Jvm.exec) {own : String} {index : Nat} {y : MethodName} {bytes : ByteArray} {maxL : Nat} {ret : Option FieldType} {hh : List (Nat × Nat × Nat × Nat)}
    (hown : s.vm.findClass own = some m.cls) (hlink : (Cond.methodLink own index y).before args s = true) (hstat : (Cond.static y).before args s = true) (hinit : (Cond.initialized y.cls).before args s = true)
    (hcode : (Cond.codeWith y bytes maxL ret hh).before args s = true) (hy : y.cls ≠ "java/lang/invoke/MethodHandle" ∧ y.cls ≠ "java/lang/invoke/VarHandle")
    {W9 : Nat} {Pre : Pt → Array Value → Prop} {Post : Pt → Array Value → Option Value → Pt → Prop} {PostX : Pt → Array Value → Addr → Pt → Prop} (hK : vx_Back l R p e below s args y 3 W9 Pre Post PostX)
    {g : JFrame} (hg : g.method = m) (hsize : g.locals.size = c.maxLocals) {argsL rest : List Value} (hlen : ∀ sig, parseMethodDescriptor y.desc = some sig → argsL.length = sig.parameters.length)
    (hstack : g.stack = argsL.reverse ++ rest) (hW : 2 * g.monitorRoom + (rest.map fun v => v.category).sum ≤ W9) (hdg : decode c.code g.pc = .ok (.invokestatic index, 3))
    (hpre : ∀ vm₁, s.WarmedH vm₁ → Pre ⟨T.setVm vm₁, locs, cells, slots⟩ argsL.toArray) :
    (∃ (v : Option Value) (vm₁ : Vm) (B : Pt), s.WarmedH vm₁ ∧ Stand p l e R s m args below meth c B.U B.locs B.cells B.slots ∧ Post ⟨T.setVm vm₁, locs, cells, slots⟩ argsL.toArray v B ∧
      ∀ target, Steps p.tables e below (B.U.setTop { g with pc := g.pc + 3, stack := v.toList ++ rest }) target → Steps p.tables e below (T.setTop g) target) ∨
    (∃ (q : Addr) (vm₁ : Vm) (B : Pt), s.WarmedH vm₁ ∧ Stand p l e R s m args below meth c B.U B.locs B.cells B.slots ∧ PostX ⟨T.setVm vm₁, locs, cells, slots⟩ argsL.toArray q B ∧
      Steps p.tables e below (T.setTop g) ((B.U.setTop { g with stack := rest }).pushFrame (.throwing q))) := by
  obtain ⟨mk, methM, cM, hnamed, hmethM, -, -, -, -, -, -, hsigM⟩ := Cond.codeWith_spec hcode
  have hstatic : methM.isStatic = true := Cond.static_spec hnamed hmethM hstat
  obtain ⟨kP, hkP, -⟩ := className_of_methodNamed hnamed
  have hinitP : kP.init = .initialized := Cond.initialized_spec (findClass_of_methodNamed hnamed) hkP hinit
  obtain ⟨vm₁, X₁, hstep₁⟩ := X.invokestatic hexec hown hlink hnamed hmethM hstatic hkP hinitP hy (g := g) hg (argsL := argsL) (rest := rest) (hlen _ hsigM) hstack hdg
  rcases hK m meth c ⟨T.setVm vm₁, locs, cells, slots⟩ { g with stack := rest } (.invokestatic index) mk argsL.toArray X₁ hg hsize hdg hW (X₁.named hnamed) (hpre vm₁ X₁.warmed) with ⟨v, B, X', hpost, hsteps⟩ | ⟨q, B, X', hpost, hsteps⟩
  · exact Or.inl ⟨v, vm₁, B, X₁.warmed, X', hpost, fun target h => hstep₁ _ fun acts => by rw [doInvoke_state]; exact hsteps.trans h⟩
  · exact Or.inr ⟨q, vm₁, B, X₁.warmed, X', hpost, hstep₁ _ fun acts => by rw [doInvoke_state]; exact hsteps⟩
theorem vx_callVW (X : Stand p l e R s m args below meth c T locs cells slots) (hexec : p.tables.exec = Jvm.exec) {own C : String} {index : Nat} {y : MethodName} {bytes : ByteArray} {maxL : Nat} {ret : Option FieldType} {hh : List (Nat × Nat × Nat × Nat)}
    (hown : s.vm.findClass own = some m.cls) (hlink : (Cond.methodLink own index y).before args s = true) (hinst : (Cond.instanceMethod y).before args s = true) (hsel : (Cond.selects C y y).before args s = true)
    (hcode : (Cond.codeWith y bytes maxL ret hh).before args s = true) (hy : y.cls ≠ "java/lang/invoke/MethodHandle" ∧ y.cls ≠ "java/lang/invoke/VarHandle")
    {W9 : Nat} {Pre : Pt → Array Value → Prop} {Post : Pt → Array Value → Option Value → Pt → Prop} (hK : Back l R p e below s args y 3 W9 Pre Post)
    {b : Addr} {cellB : Cell} (hcell : T.heap[b]? = some cellB) (hobj : cellB.vm.isStatics = false) (hcls : s.vm.findClass C = some cellB.cls)
    {g : JFrame} (hg : g.method = m) (hsize : g.locals.size = c.maxLocals) {argsL rest : List Value} (hlen : ∀ sig, parseMethodDescriptor y.desc = some sig → argsL.length = sig.parameters.length)
    (hstack : g.stack = argsL.reverse ++ .ref b :: rest) (hW : 2 * g.monitorRoom + (rest.map fun v => v.category).sum ≤ W9) (hdg : decode c.code g.pc = .ok (.invokevirtual index, 3))
    (hpre : ∀ vm₁, s.WarmedH vm₁ → Pre ⟨T.setVm vm₁, locs, cells, slots⟩ (Value.ref b :: argsL).toArray) :
    ∃ (v : Option Value) (vm₁ : Vm) (B : Pt), s.WarmedH vm₁ ∧ Stand p l e R s m args below meth c B.U B.locs B.cells B.slots ∧ Post ⟨T.setVm vm₁, locs, cells, slots⟩ (Value.ref b :: argsL).toArray v B ∧
      ∀ target, Steps p.tables e below (B.U.setTop { g with pc := g.pc + 3, stack := v.toList ++ rest }) target → Steps p.tables e below (T.setTop g) target := by
  obtain ⟨mk, methM, hnamed, hmethM, hstM, habM⟩ := Cond.instanceMethod_spec hinst
  obtain ⟨m8, methM', cM, hn8, hmethM', -, -, -, -, -, -, hsigM⟩ := Cond.codeWith_spec hcode
  cases Option.some.inj (hn8.symm.trans hnamed)
  cases hmethM.symm.trans hmethM'
  obtain ⟨c2, r2, m2, q1, q2, q3, q4, kP, hkP, hkPi⟩ := Cond.selects_spec hsel
  cases hcls.symm.trans q1
  cases (State.methodFound?_of_named hnamed hy).symm.trans q2
  cases hnamed.symm.trans q3
  have hselP : selectMethod e.platform s.vm cellB.cls mk = .method mk := by rw [Launch.admits_selectMethod X.admits]; exact q4
  obtain ⟨vm₁, X₁, hstep₁⟩ := X.invokevirtual hexec hown hlink hnamed hmethM hstM hkP hkPi hy (a := b) (cell := cellB) hcell
    (fun z h => by rw [h] at hobj; cases hobj) hselP hmethM habM hkP hkPi (g := g) hg (argsL := argsL) (rest := rest) (hlen _ hsigM) hstack hdg
  obtain ⟨v, B, X', hpost, hsteps⟩ := hK m meth c ⟨T.setVm vm₁, locs, cells, slots⟩ { g with stack := rest } (.invokevirtual index) mk (Value.ref b :: argsL).toArray X₁ hg hsize hdg hW (X₁.named hnamed) (hpre vm₁ X₁.warmed)
  exact ⟨v, vm₁, B, X₁.warmed, X', hpost, fun target h => hstep₁ _ fun acts => by rw [doInvoke_state]; exact hsteps.trans h⟩
abbrev vx_CVW (R : Room) (s : State) (args : Array Value) (own C : String) (index : Nat) (y : MethodName) (bytes : ByteArray) (maxL : Nat) (ret : Option FieldType) (hh : List (Nat × Nat × Nat × Nat)) (ws : List Cond) (rm : Room) (mc ms n : Nat) : Prop :=
  (rm.cells = mc ∧ rm.slots = ms ∧ rm.frames + 1 ≤ R.frames ∧ 8 + (maxL + 11) + rm.locals ≤ R.locals ∧ (∀ w ∈ ws, ∀ (a' : Array Value) (U : State), s.WarmedH U.vm → w.before a' U = true) ∧ Cond.codeWith y bytes maxL ret hh ∈ ws) ∧
  (Cond.codeWith y bytes maxL ret hh).before args s = true ∧ (Cond.initialized y.cls).before args s = true ∧ (y.cls ≠ "java/lang/invoke/MethodHandle" ∧ y.cls ≠ "java/lang/invoke/VarHandle") ∧
  (∀ sig, parseMethodDescriptor y.desc = some sig → n = sig.parameters.length) ∧ (Cond.methodLink own index y).before args s = true ∧ (Cond.instanceMethod y).before args s = true ∧ (Cond.selects C y y).before args s = true
theorem vx_cwVW {own C : String} {index maxL mc ms : Nat} {y : MethodName} {bytes : ByteArray} {ret : Option FieldType} {hh : List (Nat × Nat × Nat × Nat)} {Ts ws ws' : List Cond} {rm : Room} (n : Nat) (ht : ∀ w ∈ Ts, w.before args s = true) (hT : GoodIn Ts (wsV own index C y ws)) (hw : ws = Cond.codeWith y bytes maxL ret hh :: ws') (hrc : rm.cells = mc) (hrs : rm.slots = ms)
    (hd : y.cls = C ∧ y.cls ≠ "java/lang/invoke/MethodHandle" ∧ y.cls ≠ "java/lang/invoke/VarHandle" ∧ (parseMethodDescriptor y.desc).map (fun d => d.parameters.length) = some n) (hR : rm.frames + 1 ≤ R.frames ∧ 8 + (maxL + 11) + rm.locals ≤ R.locals) :
    vx_CVW R s args own C index y bytes maxL ret hh ws rm mc ms n := by
  obtain ⟨hC, hd⟩ := hd
  subst hC
  have ok : ∀ w ∈ wsV own index y.cls y ws, w.before args s = true := fun w h => ht w (hT w h).1
  have hG : GoodIn Ts ws := fun w h => hT w (by unfold wsV; exact List.mem_append_right _ h)
  have hc : Cond.codeWith y bytes maxL ret hh ∈ ws := by rw [hw]; exact List.mem_cons_self
  refine ⟨⟨hrc, hrs, hR.1, hR.2, pay_in ht hG, hc⟩, ht _ (hG _ hc).1, ok _ (by simp [wsV]), ⟨hd.1, hd.2.1⟩, fun sig h => ?_, ok _ (by simp [wsV]), ok _ (by simp [wsV]), ok _ (by simp [wsV])⟩
  have h2 := hd.2.2
  rw [h] at h2
  exact (Option.some.inj h2).symm
theorem vx_runVW {y : MethodName} {bytes cc : ByteArray} {maxL nL mc ms n index : Nat} {ret : Option FieldType} {hh : List (Nat × Nat × Nat × Nat)} {ws : List Cond} {rm : Room} {Pc : Array Value → State → Prop} {Qc : Array Value → State → Outcome → State → Prop} {free : Addr → Prop} {Ts : List Cond} {own C : String} {b : Addr} {As rest : List Value} {g : JFrame}
    (S : CallFix p m c cc nL s args Ts own) (hM : Met l y ws rm Pc Qc mc ms free) (cw : vx_CVW R s args own C index y bytes maxL ret hh ws rm mc ms n) (hp : PreV s H C b Pc As)
    (hg : g.method = m) (hn : As.length = n) (hsize : g.locals.size = nL) (hstack : g.stack = As.reverse ++ .ref b :: rest) (hW : 2 * g.monitorRoom + (rest.map fun v => v.category).sum ≤ 8) (hdg : decode cc g.pc = .ok (.invokevirtual index, 3)) (hf : cells + mc ≤ R.cells ∧ slots + ms ≤ R.slots) :
    va_Run p l e R s m args below meth c H locs cells slots mc ms g rest (Qc (Value.ref b :: As).toArray) free := by
  obtain ⟨⟨hrc, hrs, hfr, hlo, hws, hcw⟩, hcode, hini, hy, hlen, hl, hin, hse⟩ := cw
  have hK : Back l R p e below s args y 3 8 (PreOf R mc ms Pc) (PostOf Qc mc ms free) := va_backW (hh := hh) (bytes := bytes) (maxL := maxL) (ret := ret) hM hp.1 hrc hrs hfr hlo hws hcw (fun a' U hW => word_at hW (Or.inl (by first | rfl | simp [Cond.onTables, Cond.keeps, Cond.steady])) hini)
  obtain ⟨hx, hb, hml, ho, -⟩ := S
  obtain ⟨-, ⟨cellB, hcB, hoB, hclB⟩, hPc⟩ := hp
  intro T hT X
  obtain ⟨v, vm₁, ⟨U', l2, c2, s2⟩, hW₁, X', ⟨g', mk, t, L, e1, e2, hq, h1, hL, h2, h3⟩, st⟩ := vx_callVW X hx (C := C) (hh := hh) (bytes := bytes) (maxL := maxL) (ret := ret) ho hl hin hse hcode hy hK (by rw [hT]; exact hcB) hoB hclB hg (hsize.trans hml.symm) (argsL := As) (rest := rest) (fun sig h => hn.trans (hlen sig h)) hstack hW (by rw [hb]; exact hdg)
    (fun vm₁ hW₁ => ⟨hf.1, hf.2, hPc (T.setVm vm₁) hT hW₁⟩)
  dsimp only [Pt.U, Pt.locs, Pt.cells, Pt.slots] at X' e1 e2 h1 h2 h3 st
  subst h1; subst h2; subst h3
  exact ⟨v, (T.setVm vm₁).calling g' mk (Value.ref b :: As).toArray, t, U', L, hT, X', hL, e1, e2, hq, st⟩
section
variable {y : MethodName} {bytes cc : ByteArray} {maxL nL mc ms n index : Nat} {ret : Option FieldType} {ws : List Cond} {rm : Room} {Pc : Array Value → State → Prop} {Qc : Array Value → State → Outcome → State → Prop} {XC : String → State → State → Prop} {free : Addr → Prop} {Ts : List Cond} {own C : String} {b : Addr} {As rest : List Value} {g : JFrame}
theorem vx_runVX {hh : List (Nat × Nat × Nat × Nat)} (S : CallFix p m c cc nL s args Ts own) (hM : vx_Met l y ws rm Pc Qc XC mc ms free) (cw : vx_CVW R s args own C index y bytes maxL ret hh ws rm mc ms n) (hp : PreV s H C b Pc As)
    (hg : g.method = m) (hn : As.length = n) (hsize : g.locals.size = nL) (hstack : g.stack = As.reverse ++ .ref b :: rest) (hW : 2 * g.monitorRoom + (rest.map fun v => v.category).sum ≤ 8) (hdg : decode cc g.pc = .ok (.invokevirtual index, 3)) (hf : cells + mc ≤ R.cells ∧ slots + ms ≤ R.slots) :
    vx_Run p l e R s m args below meth c H locs cells slots mc ms g rest (Qc (Value.ref b :: As).toArray) XC free := by
  obtain ⟨⟨hrc, hrs, hfr, hlo, hws, hcw⟩, hcode, hini, hy, hlen, hl, hin, hse⟩ := cw
  have hK : vx_Back l R p e below s args y 3 8 (PreOf R mc ms Pc) (PostOf Qc mc ms free) (vx_Post XC mc ms free) := vx_backW (hh := hh) (bytes := bytes) (maxL := maxL) (ret := ret) hM hp.1 hrc hrs hfr hlo hws hcw (fun a' U hW => word_at hW (Or.inl (by first | rfl | simp [Cond.onTables, Cond.keeps, Cond.steady])) hini)
  obtain ⟨hx, hb, hml, ho, -⟩ := S
  obtain ⟨-, ⟨cellB, hcB, hoB, hclB⟩, hPc⟩ := hp
  intro T hT X
  rcases vx_callVX X hx (C := C) (hh := hh) (bytes := bytes) (maxL := maxL) (ret := ret) ho hl hin hse hcode hy hK (by rw [hT]; exact hcB) hoB hclB hg (hsize.trans hml.symm) (argsL := As) (rest := rest) (fun sig h => hn.trans (hlen sig h)) hstack hW (by rw [hb]; exact hdg)
    (fun vm₁ hW₁ => ⟨hf.1, hf.2, hPc (T.setVm vm₁) hT hW₁⟩) with ⟨v, vm₁, ⟨U', l2, c2, s2⟩, hW₁, X', ⟨g', mk, t, L, e1, e2, hq, h1, hL, h2, h3⟩, st⟩ | ⟨q, vm₁, ⟨U', l2, c2, s2⟩, hW₁, X', ⟨g', mk, t, L, E, ce, e1, e2, hq, hce, hcv, hcl, h1, hL, h2, h3⟩, st⟩
  · dsimp only [Pt.U, Pt.locs, Pt.cells, Pt.slots] at X' e1 e2 h1 h2 h3 st
    subst h1; subst h2; subst h3
    exact Or.inl ⟨v, (T.setVm vm₁).calling g' mk (Value.ref b :: As).toArray, t, U', L, hT, X', hL, e1, e2, hq, st⟩
  · dsimp only [Pt.U, Pt.locs, Pt.cells, Pt.slots] at X' e1 e2 h1 h2 h3 st hcl
    subst h1; subst h2; subst h3
    exact Or.inr ⟨q, (T.setVm vm₁).calling g' mk (Value.ref b :: As).toArray, t, U', L, E, ce, hT, X', hL, e1, e2, hq, hce, hcv, vx_cls hW₁ hcl, st⟩
theorem vx_runSX {hh : List (Nat × Nat × Nat × Nat)} (S : CallFix p m c cc nL s args Ts own) (hM : vx_Met l y ws rm Pc Qc XC mc ms free) (cw : vx_CSW R s args own index y bytes maxL ret hh ws rm mc ms n) (hp : PreS s H Pc As)
    (hg : g.method = m) (hn : As.length = n) (hsize : g.locals.size = nL) (hstack : g.stack = As.reverse ++ rest) (hW : 2 * g.monitorRoom + (rest.map fun v => v.category).sum ≤ 8) (hdg : decode cc g.pc = .ok (.invokestatic index, 3)) (hf : cells + mc ≤ R.cells ∧ slots + ms ≤ R.slots) :
    vx_Run p l e R s m args below meth c H locs cells slots mc ms g rest (Qc As.toArray) XC free := by
  obtain ⟨⟨hrc, hrs, hfr, hlo, hws, hcw⟩, hcode, hini, hy, hlen, hl, hstt⟩ := cw
  have hK : vx_Back l R p e below s args y 3 8 (PreOf R mc ms Pc) (PostOf Qc mc ms free) (vx_Post XC mc ms free) := vx_backW (hh := hh) (bytes := bytes) (maxL := maxL) (ret := ret) hM hp.1 hrc hrs hfr hlo hws hcw (fun a' U hW => word_at hW (Or.inl (by first | rfl | simp [Cond.onTables, Cond.keeps, Cond.steady])) hini)
  obtain ⟨hx, hb, hml, ho, -⟩ := S
  intro T hT X
  rcases vx_callSX X hx (hh := hh) (bytes := bytes) (maxL := maxL) (ret := ret) ho hl hstt hini hcode hy hK hg (hsize.trans hml.symm) (argsL := As) (rest := rest) (fun sig h => hn.trans (hlen sig h)) hstack hW (by rw [hb]; exact hdg)
    (fun vm₁ hW₁ => ⟨hf.1, hf.2, hp.2 (T.setVm vm₁) hT hW₁⟩) with ⟨v, vm₁, ⟨U', l2, c2, s2⟩, hW₁, X', ⟨g', mk, t, L, e1, e2, hq, h1, hL, h2, h3⟩, st⟩ | ⟨q, vm₁, ⟨U', l2, c2, s2⟩, hW₁, X', ⟨g', mk, t, L, E, ce, e1, e2, hq, hce, hcv, hcl, h1, hL, h2, h3⟩, st⟩
  · dsimp only [Pt.U, Pt.locs, Pt.cells, Pt.slots] at X' e1 e2 h1 h2 h3 st
    subst h1; subst h2; subst h3
    exact Or.inl ⟨v, (T.setVm vm₁).calling g' mk As.toArray, t, U', L, hT, X', hL, e1, e2, hq, st⟩
  · dsimp only [Pt.U, Pt.locs, Pt.cells, Pt.slots] at X' e1 e2 h1 h2 h3 st hcl
    subst h1; subst h2; subst h3
    exact Or.inr ⟨q, (T.setVm vm₁).calling g' mk As.toArray, t, U', L, E, ce, hT, X', hL, e1, e2, hq, hce, hcv, vx_cls hW₁ hcl, st⟩
end
end VXH
theorem vx_ofWH {l : Launch} {y : MethodName} {ws ws' : List Cond} {rm : Room} {Pc : Array Value → State → Prop} {Qc : Array Value → State → Outcome → State → Prop} {XC : String → State → State → Prop} {mc ms : Nat} {free : Addr → Prop} {cc : ByteArray} {maxL : Nat} {ret : Option FieldType} {hh : List (Nat × Nat × Nat × Nat)}
    (hy : plainName y.cls = true) (hw : ws = Cond.codeWith y cc maxL ret hh :: ws')
    (body : ∀ p e s m args below meth c s₁, BodyLoose p l y (headSpec ws rm) cc maxL ret e s m args below meth c s₁ → c.maxLocals = maxL → Pc args s →
      W p l e (headSpec ws rm).room s m args below meth c s.heap [] 0 0 (vx_MQ below Qc XC args s mc ms free) (entryFrame m args maxL)) : vx_Met l y ws rm Pc Qc XC mc ms free := by
  refine MetFree.of_bodyS (code := cc) (maxLocals := maxL) (ret := ret) hy ?_ ?_
  · intro args s m h hn
    obtain ⟨m9, meth, c, hn9, h1, h2, h3, h4, -, h5, h6, -⟩ := Cond.codeWith_spec (atoms_spec (ws := ws) h _ (by rw [hw]; exact List.mem_cons_self))
    cases hn.symm.trans hn9
    exact ⟨meth, c, h1, h2, h3, h4, h5, h6⟩
  · intro p e s m args below meth c s₁ B hml hP _
    have hh0 : s₁.heap = s.heap := by rw [B.state]; rfl
    obtain ⟨t, a1, o, b1, b2, b3⟩ := body p e s m args below meth c s₁ B hml hP s₁ hh0 (Stand.of_body B)
    exact ⟨t, o, a1, b1, b2, b3⟩
/-! ===== END ===== -/
end
section
/-! ===== BEGIN printed: names, fields, word lists, decode rows ===== -/
def RX0 : String := "CashAllocator$BillBook"
def TX0 : u_T := fun k => match k with
  | 0 => ("CashAllocator$BillBook", "customer", "[I", true)
  | 1 => ("CashAllocator$BillBook", "amount", "[I", true)
  | 2 => ("CashAllocator$BillBook", "reference", "[I", true)
  | 3 => ("CashAllocator$BillBook", "discount", "[I", true)
  | 4 => ("CashAllocator$BillBook", "lastDiscountDay", "[I", true)
  | 5 => ("CashAllocator$BillBook", "paid", "[I", true)
  | 6 => ("CashAllocator$BillBook", "taken", "[I", true)
  | 7 => ("CashAllocator$BillBook", "takenBy", "[I", true)
  | 8 => ("CashAllocator$BillBook", "disputed", "[I", true)
  | 9 => ("CashAllocator$BillBook", "disputedBy", "[I", true)
  | 10 => ("CashAllocator$BillBook", "writtenOff", "[I", true)
  | _ => ("CashAllocator$BillBook", "count", "I", false)
def tyX0 : Nat → FieldType := fun k => match k with
  | 0 => .array .int
  | 1 => .array .int
  | 2 => .array .int
  | 3 => .array .int
  | 4 => .array .int
  | 5 => .array .int
  | 6 => .array .int
  | 7 => .array .int
  | 8 => .array .int
  | 9 => .array .int
  | 10 => .array .int
  | _ => .int
abbrev wsX00 : List Cond := u_ws RX0 TX0 12
abbrev cX0_init : ByteArray := prog_2_method_1_code
def yX0_init : MethodName := ⟨RX0, "<init>", "()V"⟩
abbrev cX0_add : ByteArray := prog_2_method_2_code
def yX0_add : MethodName := ⟨RX0, "add", "(IIIII)I"⟩
abbrev cX0_openSum : ByteArray := prog_2_method_3_code
def yX0_openSum : MethodName := ⟨RX0, "openSum", "(I)I"⟩
abbrev cX0_isOpenFor : ByteArray := prog_2_method_4_code
def yX0_isOpenFor : MethodName := ⟨RX0, "isOpenFor", "(II)Z"⟩
abbrev cX0_allowsDiscount : ByteArray := prog_2_method_5_code
def yX0_allowsDiscount : MethodName := ⟨RX0, "allowsDiscount", "(II)Z"⟩
abbrev cX0_dueOn : ByteArray := prog_2_method_6_code
def yX0_dueOn : MethodName := ⟨RX0, "dueOn", "(II)I"⟩
abbrev cX0_customerNamedBy : ByteArray := prog_2_method_7_code
def yX0_customerNamedBy : MethodName := ⟨RX0, "customerNamedBy", "(I)I"⟩
abbrev cX0_takeDiscount : ByteArray := prog_2_method_8_code
def yX0_takeDiscount : MethodName := ⟨RX0, "takeDiscount", "(III)V"⟩
abbrev cX0_disputeRest : ByteArray := prog_2_method_9_code
def yX0_disputeRest : MethodName := ⟨RX0, "disputeRest", "(II)V"⟩
abbrev cX0_endDispute : ByteArray := prog_2_method_10_code
def yX0_endDispute : MethodName := ⟨RX0, "endDispute", "(IZ)I"⟩
abbrev cX0_undo : ByteArray := prog_2_method_11_code
def yX0_undo : MethodName := ⟨RX0, "undo", "(III)V"⟩
def RX1 : String := "CashAllocator$ExactSet"
def TX1 : u_T := fun k => match k with
  | 0 => ("CashAllocator$ExactSet", "offered", "[I", true)
  | 1 => ("CashAllocator$ExactSet", "dues", "[I", true)
  | 2 => ("CashAllocator$ExactSet", "chosen", "[I", true)
  | _ => ("CashAllocator$ExactSet", "count", "I", false)
def tyX1 : Nat → FieldType := fun k => match k with
  | 0 => .array .int
  | 1 => .array .int
  | 2 => .array .int
  | _ => .int
abbrev wsX10 : List Cond := u_ws RX1 TX1 4
abbrev cX1_init : ByteArray := prog_3_method_1_code
def yX1_init : MethodName := ⟨RX1, "<init>", "()V"⟩
abbrev cX1_clear : ByteArray := prog_3_method_2_code
def yX1_clear : MethodName := ⟨RX1, "clear", "()V"⟩
abbrev cX1_offer : ByteArray := prog_3_method_3_code
def yX1_offer : MethodName := ⟨RX1, "offer", "(II)V"⟩
abbrev cX1_choose : ByteArray := prog_3_method_4_code
def yX1_choose : MethodName := ⟨RX1, "choose", "(I)V"⟩
abbrev cX1_chooseOne : ByteArray := prog_3_method_5_code
def yX1_chooseOne : MethodName := ⟨RX1, "chooseOne", "(I)Z"⟩
abbrev cX1_chooseTwo : ByteArray := prog_3_method_6_code
def yX1_chooseTwo : MethodName := ⟨RX1, "chooseTwo", "(I)Z"⟩
abbrev cX1_chooseThree : ByteArray := prog_3_method_7_code
def yX1_chooseThree : MethodName := ⟨RX1, "chooseThree", "(I)V"⟩
abbrev cX1_find : ByteArray := prog_3_method_8_code
def yX1_find : MethodName := ⟨RX1, "find", "(II)I"⟩
def RX2 : String := "CashAllocator$ReceiptBook"
def TX2 : u_T := fun k => match k with
  | 0 => ("CashAllocator$ReceiptBook", "customer", "[I", true)
  | 1 => ("CashAllocator$ReceiptBook", "amount", "[I", true)
  | 2 => ("CashAllocator$ReceiptBook", "applied", "[I", true)
  | 3 => ("CashAllocator$ReceiptBook", "unapplied", "[I", true)
  | 4 => ("CashAllocator$ReceiptBook", "paidBack", "[I", true)
  | 5 => ("CashAllocator$ReceiptBook", "isBounced", "[Z", true)
  | 6 => ("CashAllocator$ReceiptBook", "sums", "[I", true)
  | 7 => ("CashAllocator$ReceiptBook", "hasSum", "[Z", true)
  | _ => ("CashAllocator$ReceiptBook", "count", "I", false)
def tyX2 : Nat → FieldType := fun k => match k with
  | 0 => .array .int
  | 1 => .array .int
  | 2 => .array .int
  | 3 => .array .int
  | 4 => .array .int
  | 5 => .array .boolean
  | 6 => .array .int
  | 7 => .array .boolean
  | _ => .int
abbrev wsX20 : List Cond := u_ws RX2 TX2 9
abbrev cX2_init : ByteArray := prog_4_method_1_code
def yX2_init : MethodName := ⟨RX2, "<init>", "()V"⟩
abbrev cX2_add : ByteArray := prog_4_method_2_code
def yX2_add : MethodName := ⟨RX2, "add", "(II)I"⟩
abbrev cX2_cell : ByteArray := prog_4_method_3_code
def yX2_cell : MethodName := ⟨RX2, "cell", "(II)I"⟩
abbrev cX2_hasPaid : ByteArray := prog_4_method_4_code
def yX2_hasPaid : MethodName := ⟨RX2, "hasPaid", "(II)Z"⟩
abbrev cX2_paidOf : ByteArray := prog_4_method_5_code
def yX2_paidOf : MethodName := ⟨RX2, "paidOf", "(II)I"⟩
abbrev cX2_addPayment : ByteArray := prog_4_method_6_code
def yX2_addPayment : MethodName := ⟨RX2, "addPayment", "(III)V"⟩
abbrev cX2_dropPayment : ByteArray := prog_4_method_7_code
def yX2_dropPayment : MethodName := ⟨RX2, "dropPayment", "(II)V"⟩
abbrev cX2_markBounced : ByteArray := prog_4_method_8_code
def yX2_markBounced : MethodName := ⟨RX2, "markBounced", "(I)V"⟩
abbrev cX2_payBackRest : ByteArray := prog_4_method_9_code
def yX2_payBackRest : MethodName := ⟨RX2, "payBackRest", "(I)I"⟩
abbrev cX2_totalOf : ByteArray := prog_4_method_10_code
def yX2_totalOf : MethodName := ⟨RX2, "totalOf", "([I)I"⟩
abbrev cX2_bouncedTotal : ByteArray := prog_4_method_11_code
def yX2_bouncedTotal : MethodName := ⟨RX2, "bouncedTotal", "()I"⟩
def RX3 : String := "CashAllocator"
def TX3 : u_T := fun k => match k with
  | 0 => ("CashAllocator", "billBook", "LCashAllocator$BillBook;", true)
  | 1 => ("CashAllocator", "receiptBook", "LCashAllocator$ReceiptBook;", true)
  | 2 => ("CashAllocator", "exactSet", "LCashAllocator$ExactSet;", true)
  | _ => ("CashAllocator", "today", "I", false)
def tyX3 : Nat → FieldType := fun k => match k with
  | 0 => .object "CashAllocator$BillBook"
  | 1 => .object "CashAllocator$ReceiptBook"
  | 2 => .object "CashAllocator$ExactSet"
  | _ => .int
abbrev wsX30 : List Cond := u_ws RX3 TX3 4
abbrev cX3_init : ByteArray := prog_1_method_1_code
def yX3_init : MethodName := ⟨RX3, "<init>", "()V"⟩
abbrev cX3_bill : ByteArray := prog_1_method_2_code
def yX3_bill : MethodName := ⟨RX3, "bill", "(IIIII)I"⟩
abbrev cX3_receive : ByteArray := prog_1_method_3_code
def yX3_receive : MethodName := ⟨RX3, "receive", "(III)I"⟩
abbrev cX3_assign : ByteArray := prog_1_method_4_code
def yX3_assign : MethodName := ⟨RX3, "assign", "(II)I"⟩
abbrev cX3_apply : ByteArray := prog_1_method_5_code
def yX3_apply : MethodName := ⟨RX3, "apply", "(I)I"⟩
abbrev cX3_payBack : ByteArray := prog_1_method_6_code
def yX3_payBack : MethodName := ⟨RX3, "payBack", "(I)I"⟩
abbrev cX3_bounce : ByteArray := prog_1_method_7_code
def yX3_bounce : MethodName := ⟨RX3, "bounce", "(I)I"⟩
abbrev cX3_settle : ByteArray := prog_1_method_8_code
def yX3_settle : MethodName := ⟨RX3, "settle", "(IZ)I"⟩
abbrev cX3_advance : ByteArray := prog_1_method_9_code
def yX3_advance : MethodName := ⟨RX3, "advance", "(I)I"⟩
abbrev cX3_bills : ByteArray := prog_1_method_10_code
def yX3_bills : MethodName := ⟨RX3, "bills", "()I"⟩
abbrev cX3_open : ByteArray := prog_1_method_11_code
def yX3_open : MethodName := ⟨RX3, "open", "(I)I"⟩
abbrev cX3_due : ByteArray := prog_1_method_12_code
def yX3_due : MethodName := ⟨RX3, "due", "(I)I"⟩
abbrev cX3_paid : ByteArray := prog_1_method_13_code
def yX3_paid : MethodName := ⟨RX3, "paid", "(I)I"⟩
abbrev cX3_taken : ByteArray := prog_1_method_14_code
def yX3_taken : MethodName := ⟨RX3, "taken", "(I)I"⟩
abbrev cX3_disputed : ByteArray := prog_1_method_15_code
def yX3_disputed : MethodName := ⟨RX3, "disputed", "(I)I"⟩
abbrev cX3_writtenOff : ByteArray := prog_1_method_16_code
def yX3_writtenOff : MethodName := ⟨RX3, "writtenOff", "(I)I"⟩
abbrev cX3_openOf : ByteArray := prog_1_method_17_code
def yX3_openOf : MethodName := ⟨RX3, "openOf", "(I)I"⟩
abbrev cX3_setFor : ByteArray := prog_1_method_18_code
def yX3_setFor : MethodName := ⟨RX3, "setFor", "(III)I"⟩
abbrev cX3_receipts : ByteArray := prog_1_method_19_code
def yX3_receipts : MethodName := ⟨RX3, "receipts", "()I"⟩
abbrev cX3_customerOf : ByteArray := prog_1_method_20_code
def yX3_customerOf : MethodName := ⟨RX3, "customerOf", "(I)I"⟩
abbrev cX3_appliedTo : ByteArray := prog_1_method_21_code
def yX3_appliedTo : MethodName := ⟨RX3, "appliedTo", "(II)I"⟩
abbrev cX3_unapplied : ByteArray := prog_1_method_22_code
def yX3_unapplied : MethodName := ⟨RX3, "unapplied", "(I)I"⟩
abbrev cX3_hasBounced : ByteArray := prog_1_method_23_code
def yX3_hasBounced : MethodName := ⟨RX3, "hasBounced", "(I)Z"⟩
abbrev cX3_day : ByteArray := prog_1_method_24_code
def yX3_day : MethodName := ⟨RX3, "day", "()I"⟩
abbrev cX3_received : ByteArray := prog_1_method_25_code
def yX3_received : MethodName := ⟨RX3, "received", "()I"⟩
abbrev cX3_applied : ByteArray := prog_1_method_26_code
def yX3_applied : MethodName := ⟨RX3, "applied", "()I"⟩
abbrev cX3_allUnapplied : ByteArray := prog_1_method_27_code
def yX3_allUnapplied : MethodName := ⟨RX3, "allUnapplied", "()I"⟩
abbrev cX3_paidBack : ByteArray := prog_1_method_28_code
def yX3_paidBack : MethodName := ⟨RX3, "paidBack", "()I"⟩
abbrev cX3_bounced : ByteArray := prog_1_method_29_code
def yX3_bounced : MethodName := ⟨RX3, "bounced", "()I"⟩
abbrev cX3_payNamedBills : ByteArray := prog_1_method_30_code
def yX3_payNamedBills : MethodName := ⟨RX3, "payNamedBills", "(II)V"⟩
abbrev cX3_payOtherBills : ByteArray := prog_1_method_31_code
def yX3_payOtherBills : MethodName := ⟨RX3, "payOtherBills", "(I)V"⟩
abbrev cX3_payExactSet : ByteArray := prog_1_method_32_code
def yX3_payExactSet : MethodName := ⟨RX3, "payExactSet", "(I)V"⟩
abbrev cX3_payOldestBills : ByteArray := prog_1_method_33_code
def yX3_payOldestBills : MethodName := ⟨RX3, "payOldestBills", "(I)V"⟩
abbrev cX3_payBill : ByteArray := prog_1_method_34_code
def yX3_payBill : MethodName := ⟨RX3, "payBill", "(II)Z"⟩
abbrev cX3_chooseExactSet : ByteArray := prog_1_method_35_code
def yX3_chooseExactSet : MethodName := ⟨RX3, "chooseExactSet", "(II)V"⟩
abbrev cX3_requireCustomer : ByteArray := prog_1_method_36_code
def yX3_requireCustomer : MethodName := ⟨RX3, "requireCustomer", "(I)V"⟩
abbrev cX3_requireBill : ByteArray := prog_1_method_37_code
def yX3_requireBill : MethodName := ⟨RX3, "requireBill", "(I)V"⟩
abbrev cX3_requireReceipt : ByteArray := prog_1_method_38_code
def yX3_requireReceipt : MethodName := ⟨RX3, "requireReceipt", "(I)V"⟩
abbrev cX3_requireNotBounced : ByteArray := prog_1_method_39_code
def yX3_requireNotBounced : MethodName := ⟨RX3, "requireNotBounced", "(I)V"⟩
abbrev cX3_requireWithin : ByteArray := prog_1_method_40_code
def yX3_requireWithin : MethodName := ⟨RX3, "requireWithin", "(III)V"⟩
abbrev cX3_discountOf : ByteArray := prog_1_method_41_code
def yX3_discountOf : MethodName := ⟨RX3, "discountOf", "(II)I"⟩
def RX4 : String := "CashAllocatorModel"
def TX4 : u_T := fun k => match k with
  | 0 => ("CashAllocatorModel", "refusal", "I", false)
  | 1 => ("CashAllocatorModel", "day", "I", false)
  | 2 => ("CashAllocatorModel", "bills", "I", false)
  | 3 => ("CashAllocatorModel", "owners", "[I", true)
  | 4 => ("CashAllocatorModel", "amounts", "[I", true)
  | 5 => ("CashAllocatorModel", "references", "[I", true)
  | 6 => ("CashAllocatorModel", "days", "[I", true)
  | 7 => ("CashAllocatorModel", "rates", "[I", true)
  | 8 => ("CashAllocatorModel", "spans", "[I", true)
  | 9 => ("CashAllocatorModel", "paidOf", "[I", true)
  | 10 => ("CashAllocatorModel", "takenOf", "[I", true)
  | 11 => ("CashAllocatorModel", "takers", "[I", true)
  | 12 => ("CashAllocatorModel", "disputedOf", "[I", true)
  | 13 => ("CashAllocatorModel", "raisers", "[I", true)
  | 14 => ("CashAllocatorModel", "writtenOf", "[I", true)
  | 15 => ("CashAllocatorModel", "receipts", "I", false)
  | 16 => ("CashAllocatorModel", "sums", "[I", true)
  | 17 => ("CashAllocatorModel", "payers", "[I", true)
  | 18 => ("CashAllocatorModel", "left", "[I", true)
  | 19 => ("CashAllocatorModel", "backs", "[I", true)
  | 20 => ("CashAllocatorModel", "isBounced", "[Z", true)
  | 21 => ("CashAllocatorModel", "paidBy", "[I", true)
  | 22 => ("CashAllocatorModel", "hasPaid", "[Z", true)
  | _ => ("CashAllocatorModel", "chosen", "[I", true)
def tyX4 : Nat → FieldType := fun k => match k with
  | 0 => .int
  | 1 => .int
  | 2 => .int
  | 3 => .array .int
  | 4 => .array .int
  | 5 => .array .int
  | 6 => .array .int
  | 7 => .array .int
  | 8 => .array .int
  | 9 => .array .int
  | 10 => .array .int
  | 11 => .array .int
  | 12 => .array .int
  | 13 => .array .int
  | 14 => .array .int
  | 15 => .int
  | 16 => .array .int
  | 17 => .array .int
  | 18 => .array .int
  | 19 => .array .int
  | 20 => .array .boolean
  | 21 => .array .int
  | 22 => .array .boolean
  | _ => .array .int
abbrev wsX40 : List Cond := u_ws RX4 TX4 24
abbrev cX4_init : ByteArray := prog_6_method_1_code
def yX4_init : MethodName := ⟨RX4, "<init>", "()V"⟩
abbrev cX4_thrown : ByteArray := prog_6_method_2_code
def yX4_thrown : MethodName := ⟨RX4, "thrown", "()I"⟩
abbrev cX4_refused : ByteArray := prog_6_method_3_code
def yX4_refused : MethodName := ⟨RX4, "refused", "(I)Z"⟩
abbrev cX4_fine : ByteArray := prog_6_method_4_code
def yX4_fine : MethodName := ⟨RX4, "fine", "(I)I"⟩
abbrev cX4_in : ByteArray := prog_6_method_5_code
def yX4_in : MethodName := ⟨RX4, "in", "(III)Z"⟩
abbrev cX4_isCustomer : ByteArray := prog_6_method_6_code
def yX4_isCustomer : MethodName := ⟨RX4, "isCustomer", "(I)Z"⟩
abbrev cX4_isBill : ByteArray := prog_6_method_7_code
def yX4_isBill : MethodName := ⟨RX4, "isBill", "(I)Z"⟩
abbrev cX4_isReceipt : ByteArray := prog_6_method_8_code
def yX4_isReceipt : MethodName := ⟨RX4, "isReceipt", "(I)Z"⟩
abbrev cX4_openNow : ByteArray := prog_6_method_9_code
def yX4_openNow : MethodName := ⟨RX4, "openNow", "(I)I"⟩
abbrev cX4_discount : ByteArray := prog_6_method_10_code
def yX4_discount : MethodName := ⟨RX4, "discount", "(I)I"⟩
abbrev cX4_dueNow : ByteArray := prog_6_method_11_code
def yX4_dueNow : MethodName := ⟨RX4, "dueNow", "(I)I"⟩
abbrev cX4_pay : ByteArray := prog_6_method_12_code
def yX4_pay : MethodName := ⟨RX4, "pay", "(II)Z"⟩
abbrev cX4_payNamed : ByteArray := prog_6_method_13_code
def yX4_payNamed : MethodName := ⟨RX4, "payNamed", "(II)V"⟩
abbrev cX4_dispute : ByteArray := prog_6_method_14_code
def yX4_dispute : MethodName := ⟨RX4, "dispute", "(II)V"⟩
abbrev cX4_dueOf : ByteArray := prog_6_method_15_code
def yX4_dueOf : MethodName := ⟨RX4, "dueOf", "(II)I"⟩
abbrev cX4_choose : ByteArray := prog_6_method_16_code
def yX4_choose : MethodName := ⟨RX4, "choose", "(IJ)I"⟩
abbrev cX4_payOthers : ByteArray := prog_6_method_17_code
def yX4_payOthers : MethodName := ⟨RX4, "payOthers", "(I)V"⟩
abbrev cX4_bill : ByteArray := prog_6_method_18_code
def yX4_bill : MethodName := ⟨RX4, "bill", "(IIIII)I"⟩
abbrev cX4_receive : ByteArray := prog_6_method_19_code
def yX4_receive : MethodName := ⟨RX4, "receive", "(III)I"⟩
abbrev cX4_assign : ByteArray := prog_6_method_20_code
def yX4_assign : MethodName := ⟨RX4, "assign", "(II)I"⟩
abbrev cX4_apply : ByteArray := prog_6_method_21_code
def yX4_apply : MethodName := ⟨RX4, "apply", "(I)I"⟩
abbrev cX4_payBack : ByteArray := prog_6_method_22_code
def yX4_payBack : MethodName := ⟨RX4, "payBack", "(I)I"⟩
abbrev cX4_bounce : ByteArray := prog_6_method_23_code
def yX4_bounce : MethodName := ⟨RX4, "bounce", "(I)I"⟩
abbrev cX4_settle : ByteArray := prog_6_method_24_code
def yX4_settle : MethodName := ⟨RX4, "settle", "(IZ)I"⟩
abbrev cX4_advance : ByteArray := prog_6_method_25_code
def yX4_advance : MethodName := ⟨RX4, "advance", "(I)I"⟩
abbrev cX4_bills : ByteArray := prog_6_method_26_code
def yX4_bills : MethodName := ⟨RX4, "bills", "()I"⟩
abbrev cX4_noBill : ByteArray := prog_6_method_27_code
def yX4_noBill : MethodName := ⟨RX4, "noBill", "(I)Z"⟩
abbrev cX4_open : ByteArray := prog_6_method_28_code
def yX4_open : MethodName := ⟨RX4, "open", "(I)I"⟩
abbrev cX4_due : ByteArray := prog_6_method_29_code
def yX4_due : MethodName := ⟨RX4, "due", "(I)I"⟩
abbrev cX4_paid : ByteArray := prog_6_method_30_code
def yX4_paid : MethodName := ⟨RX4, "paid", "(I)I"⟩
abbrev cX4_taken : ByteArray := prog_6_method_31_code
def yX4_taken : MethodName := ⟨RX4, "taken", "(I)I"⟩
abbrev cX4_disputed : ByteArray := prog_6_method_32_code
def yX4_disputed : MethodName := ⟨RX4, "disputed", "(I)I"⟩
abbrev cX4_writtenOff : ByteArray := prog_6_method_33_code
def yX4_writtenOff : MethodName := ⟨RX4, "writtenOff", "(I)I"⟩
abbrev cX4_openOf : ByteArray := prog_6_method_34_code
def yX4_openOf : MethodName := ⟨RX4, "openOf", "(I)I"⟩
abbrev cX4_setFor : ByteArray := prog_6_method_35_code
def yX4_setFor : MethodName := ⟨RX4, "setFor", "(III)I"⟩
abbrev cX4_receipts : ByteArray := prog_6_method_36_code
def yX4_receipts : MethodName := ⟨RX4, "receipts", "()I"⟩
abbrev cX4_noReceipt : ByteArray := prog_6_method_37_code
def yX4_noReceipt : MethodName := ⟨RX4, "noReceipt", "(I)Z"⟩
abbrev cX4_customerOf : ByteArray := prog_6_method_38_code
def yX4_customerOf : MethodName := ⟨RX4, "customerOf", "(I)I"⟩
abbrev cX4_appliedTo : ByteArray := prog_6_method_39_code
def yX4_appliedTo : MethodName := ⟨RX4, "appliedTo", "(II)I"⟩
abbrev cX4_unapplied : ByteArray := prog_6_method_40_code
def yX4_unapplied : MethodName := ⟨RX4, "unapplied", "(I)I"⟩
abbrev cX4_hasBounced : ByteArray := prog_6_method_41_code
def yX4_hasBounced : MethodName := ⟨RX4, "hasBounced", "(I)Z"⟩
abbrev cX4_day : ByteArray := prog_6_method_42_code
def yX4_day : MethodName := ⟨RX4, "day", "()I"⟩
abbrev cX4_all : ByteArray := prog_6_method_43_code
def yX4_all : MethodName := ⟨RX4, "all", "([I)I"⟩
abbrev cX4_allBounced : ByteArray := prog_6_method_44_code
def yX4_allBounced : MethodName := ⟨RX4, "allBounced", "()I"⟩
abbrev cX4_received : ByteArray := prog_6_method_45_code
def yX4_received : MethodName := ⟨RX4, "received", "()I"⟩
abbrev cX4_applied : ByteArray := prog_6_method_46_code
def yX4_applied : MethodName := ⟨RX4, "applied", "()I"⟩
abbrev cX4_allUnapplied : ByteArray := prog_6_method_47_code
def yX4_allUnapplied : MethodName := ⟨RX4, "allUnapplied", "()I"⟩
abbrev cX4_paidBack : ByteArray := prog_6_method_48_code
def yX4_paidBack : MethodName := ⟨RX4, "paidBack", "()I"⟩
abbrev cX4_bounced : ByteArray := prog_6_method_49_code
def yX4_bounced : MethodName := ⟨RX4, "bounced", "()I"⟩
def RJ0 : String := "java/lang/String"
def TJ0 : u_T := fun k => match k with
  | _ => ("", "", "", false)
def tyJ0 : Nat → FieldType := fun k => match k with
  | _ => .int
abbrev wsJ00 : List Cond := u_ws RJ0 TJ0 0
def RL : String := "CashAllocatorLaw"
abbrev cL_bill : ByteArray := method_3_code
def yL_bill : MethodName := ⟨RL, "bill", "(LCashAllocator;IIIII[J)I"⟩
abbrev cL_receive : ByteArray := method_4_code
def yL_receive : MethodName := ⟨RL, "receive", "(LCashAllocator;III[J)I"⟩
abbrev cL_assign : ByteArray := method_5_code
def yL_assign : MethodName := ⟨RL, "assign", "(LCashAllocator;II[J)I"⟩
abbrev cL_apply : ByteArray := method_6_code
def yL_apply : MethodName := ⟨RL, "apply", "(LCashAllocator;I[J)I"⟩
abbrev cL_payBack : ByteArray := method_7_code
def yL_payBack : MethodName := ⟨RL, "payBack", "(LCashAllocator;I[J)I"⟩
abbrev cL_bounce : ByteArray := method_8_code
def yL_bounce : MethodName := ⟨RL, "bounce", "(LCashAllocator;I[J)I"⟩
abbrev cL_settle : ByteArray := method_9_code
def yL_settle : MethodName := ⟨RL, "settle", "(LCashAllocator;IZ[J)I"⟩
abbrev cL_advance : ByteArray := method_10_code
def yL_advance : MethodName := ⟨RL, "advance", "(LCashAllocator;I[J)I"⟩
abbrev cL_open : ByteArray := method_11_code
def yL_open : MethodName := ⟨RL, "open", "(LCashAllocator;I[J)I"⟩
abbrev cL_due : ByteArray := method_12_code
def yL_due : MethodName := ⟨RL, "due", "(LCashAllocator;I[J)I"⟩
abbrev cL_paid : ByteArray := method_13_code
def yL_paid : MethodName := ⟨RL, "paid", "(LCashAllocator;I[J)I"⟩
abbrev cL_taken : ByteArray := method_14_code
def yL_taken : MethodName := ⟨RL, "taken", "(LCashAllocator;I[J)I"⟩
abbrev cL_disputed : ByteArray := method_15_code
def yL_disputed : MethodName := ⟨RL, "disputed", "(LCashAllocator;I[J)I"⟩
abbrev cL_writtenOff : ByteArray := method_16_code
def yL_writtenOff : MethodName := ⟨RL, "writtenOff", "(LCashAllocator;I[J)I"⟩
abbrev cL_openOf : ByteArray := method_17_code
def yL_openOf : MethodName := ⟨RL, "openOf", "(LCashAllocator;I[J)I"⟩
abbrev cL_setFor : ByteArray := method_18_code
def yL_setFor : MethodName := ⟨RL, "setFor", "(LCashAllocator;III[J)I"⟩
abbrev cL_customerOf : ByteArray := method_19_code
def yL_customerOf : MethodName := ⟨RL, "customerOf", "(LCashAllocator;I[J)I"⟩
abbrev cL_appliedTo : ByteArray := method_20_code
def yL_appliedTo : MethodName := ⟨RL, "appliedTo", "(LCashAllocator;II[J)I"⟩
abbrev cL_unapplied : ByteArray := method_21_code
def yL_unapplied : MethodName := ⟨RL, "unapplied", "(LCashAllocator;I[J)I"⟩
abbrev cL_hasBounced : ByteArray := method_22_code
def yL_hasBounced : MethodName := ⟨RL, "hasBounced", "(LCashAllocator;I[J)I"⟩
abbrev cL_law : ByteArray := code
def yL_law : MethodName := ⟨RL, "law", "([I)Z"⟩
def wsX0_init : List Cond := .code yX0_init cX0_init 1 none :: ([.methodLink RX0 3 objectInit, .instanceMethod objectInit, .code objectInit ⟨#[0xb1]⟩ 1 none, .arrayClass .int, .fieldLink RX0 9 "CashAllocator$BillBook" "customer" "[I", .fieldLink RX0 15 "CashAllocator$BillBook" "amount" "[I", .fieldLink RX0 18 "CashAllocator$BillBook" "reference" "[I", .fieldLink RX0 21 "CashAllocator$BillBook" "discount" "[I", .fieldLink RX0 24 "CashAllocator$BillBook" "lastDiscountDay" "[I", .fieldLink RX0 27 "CashAllocator$BillBook" "paid" "[I", .fieldLink RX0 30 "CashAllocator$BillBook" "taken" "[I", .fieldLink RX0 33 "CashAllocator$BillBook" "takenBy" "[I", .fieldLink RX0 36 "CashAllocator$BillBook" "disputed" "[I", .fieldLink RX0 39 "CashAllocator$BillBook" "disputedBy" "[I", .fieldLink RX0 42 "CashAllocator$BillBook" "writtenOff" "[I"] ++ wsX00)
def wsX0_add : List Cond := .code yX0_add cX0_add 7 (some .int) :: ([.fieldLink RX0 45 "CashAllocator$BillBook" "count" "I", .fieldLink RX0 9 "CashAllocator$BillBook" "customer" "[I", .fieldLink RX0 15 "CashAllocator$BillBook" "amount" "[I", .fieldLink RX0 18 "CashAllocator$BillBook" "reference" "[I", .fieldLink RX0 21 "CashAllocator$BillBook" "discount" "[I", .fieldLink RX0 24 "CashAllocator$BillBook" "lastDiscountDay" "[I", .fieldLink RX0 33 "CashAllocator$BillBook" "takenBy" "[I", .fieldLink RX0 39 "CashAllocator$BillBook" "disputedBy" "[I"] ++ wsX00)
def wsX0_openSum : List Cond := .code yX0_openSum cX0_openSum 2 (some .int) :: ([.fieldLink RX0 15 "CashAllocator$BillBook" "amount" "[I", .fieldLink RX0 27 "CashAllocator$BillBook" "paid" "[I", .fieldLink RX0 30 "CashAllocator$BillBook" "taken" "[I", .fieldLink RX0 36 "CashAllocator$BillBook" "disputed" "[I", .fieldLink RX0 42 "CashAllocator$BillBook" "writtenOff" "[I"] ++ wsX00)
def wsX0_isOpenFor : List Cond := .code yX0_isOpenFor cX0_isOpenFor 3 (some .boolean) :: ([.fieldLink RX0 9 "CashAllocator$BillBook" "customer" "[I", .methodLink RX0 49 yX0_openSum, .instanceMethod yX0_openSum, .selects RX0 yX0_openSum yX0_openSum, .initialized RX0, .code yX0_openSum cX0_openSum 2 (some .int), .fieldLink RX0 15 "CashAllocator$BillBook" "amount" "[I", .fieldLink RX0 27 "CashAllocator$BillBook" "paid" "[I", .fieldLink RX0 30 "CashAllocator$BillBook" "taken" "[I", .fieldLink RX0 36 "CashAllocator$BillBook" "disputed" "[I", .fieldLink RX0 42 "CashAllocator$BillBook" "writtenOff" "[I"] ++ wsX00)
def wsX0_allowsDiscount : List Cond := .code yX0_allowsDiscount cX0_allowsDiscount 3 (some .boolean) :: ([.fieldLink RX0 15 "CashAllocator$BillBook" "amount" "[I", .fieldLink RX0 24 "CashAllocator$BillBook" "lastDiscountDay" "[I", .methodLink RX0 49 yX0_openSum, .instanceMethod yX0_openSum, .selects RX0 yX0_openSum yX0_openSum, .initialized RX0, .code yX0_openSum cX0_openSum 2 (some .int), .fieldLink RX0 27 "CashAllocator$BillBook" "paid" "[I", .fieldLink RX0 30 "CashAllocator$BillBook" "taken" "[I", .fieldLink RX0 36 "CashAllocator$BillBook" "disputed" "[I", .fieldLink RX0 42 "CashAllocator$BillBook" "writtenOff" "[I"] ++ wsX00)
def wsX0_dueOn : List Cond := .code yX0_dueOn cX0_dueOn 4 (some .int) :: ([.fieldLink RX0 21 "CashAllocator$BillBook" "discount" "[I", .methodLink RX0 49 yX0_openSum, .instanceMethod yX0_openSum, .selects RX0 yX0_openSum yX0_openSum, .initialized RX0, .code yX0_openSum cX0_openSum 2 (some .int), .fieldLink RX0 15 "CashAllocator$BillBook" "amount" "[I", .fieldLink RX0 27 "CashAllocator$BillBook" "paid" "[I", .fieldLink RX0 30 "CashAllocator$BillBook" "taken" "[I", .fieldLink RX0 36 "CashAllocator$BillBook" "disputed" "[I", .fieldLink RX0 42 "CashAllocator$BillBook" "writtenOff" "[I", .methodLink RX0 53 yX0_allowsDiscount, .instanceMethod yX0_allowsDiscount, .selects RX0 yX0_allowsDiscount yX0_allowsDiscount, .code yX0_allowsDiscount cX0_allowsDiscount 3 (some .boolean), .fieldLink RX0 24 "CashAllocator$BillBook" "lastDiscountDay" "[I"] ++ wsX00)
def wsX0_customerNamedBy : List Cond := .code yX0_customerNamedBy cX0_customerNamedBy 3 (some .int) :: ([.fieldLink RX0 45 "CashAllocator$BillBook" "count" "I", .fieldLink RX0 18 "CashAllocator$BillBook" "reference" "[I", .fieldLink RX0 9 "CashAllocator$BillBook" "customer" "[I", .methodLink RX0 49 yX0_openSum, .instanceMethod yX0_openSum, .selects RX0 yX0_openSum yX0_openSum, .initialized RX0, .code yX0_openSum cX0_openSum 2 (some .int), .fieldLink RX0 15 "CashAllocator$BillBook" "amount" "[I", .fieldLink RX0 27 "CashAllocator$BillBook" "paid" "[I", .fieldLink RX0 30 "CashAllocator$BillBook" "taken" "[I", .fieldLink RX0 36 "CashAllocator$BillBook" "disputed" "[I", .fieldLink RX0 42 "CashAllocator$BillBook" "writtenOff" "[I"] ++ wsX00)
def wsX0_takeDiscount : List Cond := .code yX0_takeDiscount cX0_takeDiscount 4 none :: ([.fieldLink RX0 30 "CashAllocator$BillBook" "taken" "[I", .fieldLink RX0 21 "CashAllocator$BillBook" "discount" "[I", .fieldLink RX0 33 "CashAllocator$BillBook" "takenBy" "[I", .methodLink RX0 53 yX0_allowsDiscount, .instanceMethod yX0_allowsDiscount, .selects RX0 yX0_allowsDiscount yX0_allowsDiscount, .initialized RX0, .code yX0_allowsDiscount cX0_allowsDiscount 3 (some .boolean), .fieldLink RX0 15 "CashAllocator$BillBook" "amount" "[I", .fieldLink RX0 24 "CashAllocator$BillBook" "lastDiscountDay" "[I", .methodLink RX0 49 yX0_openSum, .instanceMethod yX0_openSum, .selects RX0 yX0_openSum yX0_openSum, .code yX0_openSum cX0_openSum 2 (some .int), .fieldLink RX0 27 "CashAllocator$BillBook" "paid" "[I", .fieldLink RX0 36 "CashAllocator$BillBook" "disputed" "[I", .fieldLink RX0 42 "CashAllocator$BillBook" "writtenOff" "[I"] ++ wsX00)
def wsX0_disputeRest : List Cond := .code yX0_disputeRest cX0_disputeRest 3 none :: ([.fieldLink RX0 36 "CashAllocator$BillBook" "disputed" "[I", .fieldLink RX0 39 "CashAllocator$BillBook" "disputedBy" "[I", .methodLink RX0 49 yX0_openSum, .instanceMethod yX0_openSum, .selects RX0 yX0_openSum yX0_openSum, .initialized RX0, .code yX0_openSum cX0_openSum 2 (some .int), .fieldLink RX0 15 "CashAllocator$BillBook" "amount" "[I", .fieldLink RX0 27 "CashAllocator$BillBook" "paid" "[I", .fieldLink RX0 30 "CashAllocator$BillBook" "taken" "[I", .fieldLink RX0 42 "CashAllocator$BillBook" "writtenOff" "[I"] ++ wsX00)
def wsX0_endDispute : List Cond := .code yX0_endDispute cX0_endDispute 4 (some .int) :: ([.fieldLink RX0 36 "CashAllocator$BillBook" "disputed" "[I", .fieldLink RX0 42 "CashAllocator$BillBook" "writtenOff" "[I", .fieldLink RX0 39 "CashAllocator$BillBook" "disputedBy" "[I"] ++ wsX00)
def wsX0_undo : List Cond := .code yX0_undo cX0_undo 4 none :: ([.fieldLink RX0 27 "CashAllocator$BillBook" "paid" "[I", .fieldLink RX0 33 "CashAllocator$BillBook" "takenBy" "[I", .fieldLink RX0 30 "CashAllocator$BillBook" "taken" "[I", .fieldLink RX0 39 "CashAllocator$BillBook" "disputedBy" "[I", .methodLink RX0 57 yX0_endDispute, .instanceMethod yX0_endDispute, .selects RX0 yX0_endDispute yX0_endDispute, .initialized RX0, .code yX0_endDispute cX0_endDispute 4 (some .int), .fieldLink RX0 36 "CashAllocator$BillBook" "disputed" "[I", .fieldLink RX0 42 "CashAllocator$BillBook" "writtenOff" "[I"] ++ wsX00)
def wsX1_init : List Cond := .code yX1_init cX1_init 1 none :: ([.methodLink RX1 3 objectInit, .instanceMethod objectInit, .code objectInit ⟨#[0xb1]⟩ 1 none, .arrayClass .int, .fieldLink RX1 9 "CashAllocator$ExactSet" "offered" "[I", .fieldLink RX1 15 "CashAllocator$ExactSet" "dues" "[I", .fieldLink RX1 18 "CashAllocator$ExactSet" "chosen" "[I"] ++ wsX10)
def wsX1_clear : List Cond := .code yX1_clear cX1_clear 1 none :: ([.fieldLink RX1 21 "CashAllocator$ExactSet" "count" "I", .fieldLink RX1 18 "CashAllocator$ExactSet" "chosen" "[I"] ++ wsX10)
def wsX1_offer : List Cond := .code yX1_offer cX1_offer 3 none :: ([.fieldLink RX1 21 "CashAllocator$ExactSet" "count" "I", .fieldLink RX1 9 "CashAllocator$ExactSet" "offered" "[I", .fieldLink RX1 15 "CashAllocator$ExactSet" "dues" "[I"] ++ wsX10)
def wsX1_find : List Cond := .code yX1_find cX1_find 4 (some .int) :: ([.fieldLink RX1 21 "CashAllocator$ExactSet" "count" "I", .fieldLink RX1 15 "CashAllocator$ExactSet" "dues" "[I"] ++ wsX10)
def wsX1_chooseOne : List Cond := .code yX1_chooseOne cX1_chooseOne 3 (some .boolean) :: ([.fieldLink RX1 18 "CashAllocator$ExactSet" "chosen" "[I", .fieldLink RX1 9 "CashAllocator$ExactSet" "offered" "[I", .methodLink RX1 36 yX1_find, .instanceMethod yX1_find, .selects RX1 yX1_find yX1_find, .initialized RX1, .code yX1_find cX1_find 4 (some .int), .fieldLink RX1 21 "CashAllocator$ExactSet" "count" "I", .fieldLink RX1 15 "CashAllocator$ExactSet" "dues" "[I"] ++ wsX10)
def wsX1_chooseTwo : List Cond := .code yX1_chooseTwo cX1_chooseTwo 4 (some .boolean) :: ([.fieldLink RX1 21 "CashAllocator$ExactSet" "count" "I", .fieldLink RX1 15 "CashAllocator$ExactSet" "dues" "[I", .fieldLink RX1 18 "CashAllocator$ExactSet" "chosen" "[I", .fieldLink RX1 9 "CashAllocator$ExactSet" "offered" "[I", .methodLink RX1 36 yX1_find, .instanceMethod yX1_find, .selects RX1 yX1_find yX1_find, .initialized RX1, .code yX1_find cX1_find 4 (some .int)] ++ wsX10)
def wsX1_chooseThree : List Cond := .code yX1_chooseThree cX1_chooseThree 5 none :: ([.fieldLink RX1 21 "CashAllocator$ExactSet" "count" "I", .fieldLink RX1 15 "CashAllocator$ExactSet" "dues" "[I", .fieldLink RX1 18 "CashAllocator$ExactSet" "chosen" "[I", .fieldLink RX1 9 "CashAllocator$ExactSet" "offered" "[I", .methodLink RX1 36 yX1_find, .instanceMethod yX1_find, .selects RX1 yX1_find yX1_find, .initialized RX1, .code yX1_find cX1_find 4 (some .int)] ++ wsX10)
def wsX1_choose : List Cond := .code yX1_choose cX1_choose 2 none :: ([.methodLink RX1 25 yX1_chooseOne, .instanceMethod yX1_chooseOne, .selects RX1 yX1_chooseOne yX1_chooseOne, .initialized RX1, .code yX1_chooseOne cX1_chooseOne 3 (some .boolean), .fieldLink RX1 18 "CashAllocator$ExactSet" "chosen" "[I", .fieldLink RX1 9 "CashAllocator$ExactSet" "offered" "[I", .methodLink RX1 36 yX1_find, .instanceMethod yX1_find, .selects RX1 yX1_find yX1_find, .code yX1_find cX1_find 4 (some .int), .fieldLink RX1 21 "CashAllocator$ExactSet" "count" "I", .fieldLink RX1 15 "CashAllocator$ExactSet" "dues" "[I", .methodLink RX1 29 yX1_chooseTwo, .instanceMethod yX1_chooseTwo, .selects RX1 yX1_chooseTwo yX1_chooseTwo, .code yX1_chooseTwo cX1_chooseTwo 4 (some .boolean), .methodLink RX1 32 yX1_chooseThree, .instanceMethod yX1_chooseThree, .selects RX1 yX1_chooseThree yX1_chooseThree, .code yX1_chooseThree cX1_chooseThree 5 none] ++ wsX10)
def wsX2_init : List Cond := .code yX2_init cX2_init 1 none :: ([.methodLink RX2 3 objectInit, .instanceMethod objectInit, .code objectInit ⟨#[0xb1]⟩ 1 none, .arrayClass .int, .fieldLink RX2 9 "CashAllocator$ReceiptBook" "customer" "[I", .fieldLink RX2 15 "CashAllocator$ReceiptBook" "amount" "[I", .fieldLink RX2 18 "CashAllocator$ReceiptBook" "applied" "[I", .fieldLink RX2 21 "CashAllocator$ReceiptBook" "unapplied" "[I", .fieldLink RX2 24 "CashAllocator$ReceiptBook" "paidBack" "[I", .arrayClass .boolean, .fieldLink RX2 27 "CashAllocator$ReceiptBook" "isBounced" "[Z", .fieldLink RX2 31 "CashAllocator$ReceiptBook" "sums" "[I", .fieldLink RX2 34 "CashAllocator$ReceiptBook" "hasSum" "[Z"] ++ wsX20)
def wsX2_add : List Cond := .code yX2_add cX2_add 4 (some .int) :: ([.fieldLink RX2 37 "CashAllocator$ReceiptBook" "count" "I", .fieldLink RX2 9 "CashAllocator$ReceiptBook" "customer" "[I", .fieldLink RX2 15 "CashAllocator$ReceiptBook" "amount" "[I", .fieldLink RX2 21 "CashAllocator$ReceiptBook" "unapplied" "[I"] ++ wsX20)
def wsX2_cell : List Cond := .code yX2_cell cX2_cell 2 (some .int) :: ([])
def wsX2_hasPaid : List Cond := .code yX2_hasPaid cX2_hasPaid 3 (some .boolean) :: ([.fieldLink RX2 34 "CashAllocator$ReceiptBook" "hasSum" "[Z", .methodLink RX2 41 yX2_cell, .static yX2_cell, .initialized RX2, .code yX2_cell cX2_cell 2 (some .int)] ++ wsX20)
def wsX2_paidOf : List Cond := .code yX2_paidOf cX2_paidOf 3 (some .int) :: ([.fieldLink RX2 31 "CashAllocator$ReceiptBook" "sums" "[I", .methodLink RX2 41 yX2_cell, .static yX2_cell, .initialized RX2, .code yX2_cell cX2_cell 2 (some .int)] ++ wsX20)
def wsX2_addPayment : List Cond := .code yX2_addPayment cX2_addPayment 4 none :: ([.fieldLink RX2 31 "CashAllocator$ReceiptBook" "sums" "[I", .fieldLink RX2 34 "CashAllocator$ReceiptBook" "hasSum" "[Z", .fieldLink RX2 18 "CashAllocator$ReceiptBook" "applied" "[I", .fieldLink RX2 21 "CashAllocator$ReceiptBook" "unapplied" "[I", .methodLink RX2 41 yX2_cell, .static yX2_cell, .initialized RX2, .code yX2_cell cX2_cell 2 (some .int)] ++ wsX20)
def wsX2_dropPayment : List Cond := .code yX2_dropPayment cX2_dropPayment 3 none :: ([.fieldLink RX2 18 "CashAllocator$ReceiptBook" "applied" "[I", .fieldLink RX2 31 "CashAllocator$ReceiptBook" "sums" "[I", .fieldLink RX2 34 "CashAllocator$ReceiptBook" "hasSum" "[Z", .methodLink RX2 41 yX2_cell, .static yX2_cell, .initialized RX2, .code yX2_cell cX2_cell 2 (some .int)] ++ wsX20)
def wsX2_markBounced : List Cond := .code yX2_markBounced cX2_markBounced 2 none :: ([.fieldLink RX2 21 "CashAllocator$ReceiptBook" "unapplied" "[I", .fieldLink RX2 27 "CashAllocator$ReceiptBook" "isBounced" "[Z"] ++ wsX20)
def wsX2_payBackRest : List Cond := .code yX2_payBackRest cX2_payBackRest 3 (some .int) :: ([.fieldLink RX2 21 "CashAllocator$ReceiptBook" "unapplied" "[I", .fieldLink RX2 24 "CashAllocator$ReceiptBook" "paidBack" "[I"] ++ wsX20)
def wsX2_totalOf : List Cond := .code yX2_totalOf cX2_totalOf 4 (some .int) :: ([.fieldLink RX2 37 "CashAllocator$ReceiptBook" "count" "I"] ++ wsX20)
def wsX2_bouncedTotal : List Cond := .code yX2_bouncedTotal cX2_bouncedTotal 3 (some .int) :: ([.fieldLink RX2 37 "CashAllocator$ReceiptBook" "count" "I", .fieldLink RX2 27 "CashAllocator$ReceiptBook" "isBounced" "[Z", .fieldLink RX2 15 "CashAllocator$ReceiptBook" "amount" "[I"] ++ wsX20)
def wsX3_init_r1 : List Cond := [Cond.methodLink RX3 1 objectInit, Cond.instanceMethod objectInit, Cond.code objectInit ⟨#[0xb1]⟩ 1 none, Cond.classLink RX3 7 RX0, Cond.instantiable RX0 12, Cond.initialized RX0, Cond.fieldLink RX3 10 "CashAllocator" "billBook" "LCashAllocator$BillBook;", Cond.classLink RX3 16 RX2, Cond.instantiable RX2 9, Cond.initialized RX2, Cond.fieldLink RX3 19 "CashAllocator" "receiptBook" "LCashAllocator$ReceiptBook;", Cond.classLink RX3 23 RX1, Cond.instantiable RX1 4, Cond.initialized RX1, Cond.fieldLink RX3 26 "CashAllocator" "exactSet" "LCashAllocator$ExactSet;", Cond.fieldLink RX3 30 "CashAllocator" "today" "I", Cond.instanceMethod yX0_init, Cond.code yX0_init cX0_init 1 none, Cond.methodLink RX0 3 objectInit, Cond.arrayClass .int, Cond.fieldLink RX0 9 "CashAllocator$BillBook" "customer" "[I", Cond.fieldLink RX0 15 "CashAllocator$BillBook" "amount" "[I", Cond.fieldLink RX0 18 "CashAllocator$BillBook" "reference" "[I", Cond.fieldLink RX0 21 "CashAllocator$BillBook" "discount" "[I"]
def wsX3_init_r2 : List Cond := [Cond.fieldLink RX0 24 "CashAllocator$BillBook" "lastDiscountDay" "[I", Cond.fieldLink RX0 27 "CashAllocator$BillBook" "paid" "[I", Cond.fieldLink RX0 30 "CashAllocator$BillBook" "taken" "[I", Cond.fieldLink RX0 33 "CashAllocator$BillBook" "takenBy" "[I", Cond.fieldLink RX0 36 "CashAllocator$BillBook" "disputed" "[I", Cond.fieldLink RX0 39 "CashAllocator$BillBook" "disputedBy" "[I", Cond.fieldLink RX0 42 "CashAllocator$BillBook" "writtenOff" "[I", Cond.instanceMethod yX2_init, Cond.code yX2_init cX2_init 1 none, Cond.methodLink RX2 3 objectInit, Cond.fieldLink RX2 9 "CashAllocator$ReceiptBook" "customer" "[I", Cond.fieldLink RX2 15 "CashAllocator$ReceiptBook" "amount" "[I", Cond.fieldLink RX2 18 "CashAllocator$ReceiptBook" "applied" "[I", Cond.fieldLink RX2 21 "CashAllocator$ReceiptBook" "unapplied" "[I", Cond.fieldLink RX2 24 "CashAllocator$ReceiptBook" "paidBack" "[I", Cond.arrayClass .boolean, Cond.fieldLink RX2 27 "CashAllocator$ReceiptBook" "isBounced" "[Z", Cond.fieldLink RX2 31 "CashAllocator$ReceiptBook" "sums" "[I", Cond.fieldLink RX2 34 "CashAllocator$ReceiptBook" "hasSum" "[Z", Cond.instanceMethod yX1_init, Cond.code yX1_init cX1_init 1 none, Cond.methodLink RX1 3 objectInit, Cond.fieldLink RX1 9 "CashAllocator$ExactSet" "offered" "[I", Cond.fieldLink RX1 15 "CashAllocator$ExactSet" "dues" "[I"]
def wsX3_init_r3 : List Cond := [Cond.fieldLink RX1 18 "CashAllocator$ExactSet" "chosen" "[I"]
def wsX3_init : List Cond := .code yX3_init cX3_init 1 none :: ((wsX3_init_r1 ++ (wsX3_init_r2 ++ wsX3_init_r3)) ++ wsX00 ++ wsX30 ++ wsX20 ++ wsX10)
def wsX3_requireCustomer : List Cond := .code yX3_requireCustomer cX3_requireCustomer 1 none :: ([.classLink RX3 145 "java/lang/IndexOutOfBoundsException", .initialized "java/lang/IndexOutOfBoundsException"] ++ (vx_atS RX3 149 "java/lang/IndexOutOfBoundsException" ["java/lang/RuntimeException", "java/lang/Exception"]).filter goodWord)
def wsX3_requireWithin : List Cond := .code yX3_requireWithin cX3_requireWithin 3 none :: ([.classLink RX3 150 "java/lang/IllegalArgumentException", .initialized "java/lang/IllegalArgumentException"] ++ (vx_atS RX3 154 "java/lang/IllegalArgumentException" ["java/lang/RuntimeException", "java/lang/Exception"]).filter goodWord)
def wsX3_discountOf : List Cond := .code yX3_discountOf cX3_discountOf 2 (some .int) :: ([.constantLong RX3 225 (10000)])
def wsX3_bill_r1 : List Cond := [Cond.classLink RX3 46 "java/lang/IllegalStateException", Cond.initialized "java/lang/IllegalStateException", Cond.constant RX3 38 (1000000), Cond.fieldLink RX3 10 "CashAllocator" "billBook" "LCashAllocator$BillBook;", Cond.fieldLink RX3 43 "CashAllocator$BillBook" "count" "I", Cond.fieldLink RX3 30 "CashAllocator" "today" "I", Cond.methodLink RX3 34 yX3_requireCustomer, Cond.static yX3_requireCustomer, Cond.initialized RX3, Cond.code yX3_requireCustomer cX3_requireCustomer 1 none, Cond.classLink RX3 145 "java/lang/IndexOutOfBoundsException", Cond.initialized "java/lang/IndexOutOfBoundsException", Cond.methodLink RX3 39 yX3_requireWithin, Cond.static yX3_requireWithin, Cond.code yX3_requireWithin cX3_requireWithin 3 none, Cond.classLink RX3 150 "java/lang/IllegalArgumentException", Cond.initialized "java/lang/IllegalArgumentException", Cond.methodLink RX3 53 yX3_discountOf, Cond.static yX3_discountOf, Cond.code yX3_discountOf cX3_discountOf 2 (some .int), Cond.constantLong RX3 225 (10000), Cond.methodLink RX3 57 yX0_add, Cond.instanceMethod yX0_add, Cond.selects RX0 yX0_add yX0_add]
def wsX3_bill_r2 : List Cond := [Cond.initialized RX0, Cond.code yX0_add cX0_add 7 (some .int), Cond.fieldLink RX0 45 "CashAllocator$BillBook" "count" "I", Cond.fieldLink RX0 9 "CashAllocator$BillBook" "customer" "[I", Cond.fieldLink RX0 15 "CashAllocator$BillBook" "amount" "[I", Cond.fieldLink RX0 18 "CashAllocator$BillBook" "reference" "[I", Cond.fieldLink RX0 21 "CashAllocator$BillBook" "discount" "[I", Cond.fieldLink RX0 24 "CashAllocator$BillBook" "lastDiscountDay" "[I", Cond.fieldLink RX0 33 "CashAllocator$BillBook" "takenBy" "[I", Cond.fieldLink RX0 39 "CashAllocator$BillBook" "disputedBy" "[I"]
def wsX3_bill : List Cond := .code yX3_bill cX3_bill 6 (some .int) :: ((wsX3_bill_r1 ++ wsX3_bill_r2) ++ wsX30 ++ wsX00 ++ (vx_atS RX3 50 "java/lang/IllegalStateException" ["java/lang/RuntimeException", "java/lang/Exception"]).filter goodWord ++ (vx_atS RX3 149 "java/lang/IndexOutOfBoundsException" ["java/lang/RuntimeException", "java/lang/Exception"]).filter goodWord ++ (vx_atS RX3 154 "java/lang/IllegalArgumentException" ["java/lang/RuntimeException", "java/lang/Exception"]).filter goodWord)
def wsX3_payBill_r1 : List Cond := [Cond.fieldLink RX3 10 "CashAllocator" "billBook" "LCashAllocator$BillBook;", Cond.fieldLink RX3 30 "CashAllocator" "today" "I", Cond.fieldLink RX3 19 "CashAllocator" "receiptBook" "LCashAllocator$ReceiptBook;", Cond.fieldLink RX3 85 "CashAllocator$ReceiptBook" "unapplied" "[I", Cond.fieldLink RX3 135 "CashAllocator$BillBook" "paid" "[I", Cond.methodLink RX3 132 yX0_dueOn, Cond.instanceMethod yX0_dueOn, Cond.selects RX0 yX0_dueOn yX0_dueOn, Cond.initialized RX0, Cond.code yX0_dueOn cX0_dueOn 4 (some .int), Cond.fieldLink RX0 21 "CashAllocator$BillBook" "discount" "[I", Cond.methodLink RX0 49 yX0_openSum, Cond.instanceMethod yX0_openSum, Cond.selects RX0 yX0_openSum yX0_openSum, Cond.code yX0_openSum cX0_openSum 2 (some .int), Cond.fieldLink RX0 15 "CashAllocator$BillBook" "amount" "[I", Cond.fieldLink RX0 27 "CashAllocator$BillBook" "paid" "[I", Cond.fieldLink RX0 30 "CashAllocator$BillBook" "taken" "[I", Cond.fieldLink RX0 36 "CashAllocator$BillBook" "disputed" "[I", Cond.fieldLink RX0 42 "CashAllocator$BillBook" "writtenOff" "[I", Cond.methodLink RX0 53 yX0_allowsDiscount, Cond.instanceMethod yX0_allowsDiscount, Cond.selects RX0 yX0_allowsDiscount yX0_allowsDiscount, Cond.code yX0_allowsDiscount cX0_allowsDiscount 3 (some .boolean)]
def wsX3_payBill_r2 : List Cond := [Cond.fieldLink RX0 24 "CashAllocator$BillBook" "lastDiscountDay" "[I", Cond.methodLink RX3 200 yX0_takeDiscount, Cond.instanceMethod yX0_takeDiscount, Cond.selects RX0 yX0_takeDiscount yX0_takeDiscount, Cond.code yX0_takeDiscount cX0_takeDiscount 4 none, Cond.fieldLink RX0 33 "CashAllocator$BillBook" "takenBy" "[I", Cond.methodLink RX3 203 yX2_addPayment, Cond.instanceMethod yX2_addPayment, Cond.selects RX2 yX2_addPayment yX2_addPayment, Cond.initialized RX2, Cond.code yX2_addPayment cX2_addPayment 4 none, Cond.fieldLink RX2 31 "CashAllocator$ReceiptBook" "sums" "[I", Cond.fieldLink RX2 34 "CashAllocator$ReceiptBook" "hasSum" "[Z", Cond.fieldLink RX2 18 "CashAllocator$ReceiptBook" "applied" "[I", Cond.fieldLink RX2 21 "CashAllocator$ReceiptBook" "unapplied" "[I", Cond.methodLink RX2 41 yX2_cell, Cond.static yX2_cell, Cond.code yX2_cell cX2_cell 2 (some .int)]
def wsX3_payBill : List Cond := .code yX3_payBill cX3_payBill 7 (some .boolean) :: ((wsX3_payBill_r1 ++ wsX3_payBill_r2) ++ wsX30 ++ wsX20 ++ wsX00)
def wsX3_payNamedBills_r1 : List Cond := [Cond.fieldLink RX3 19 "CashAllocator" "receiptBook" "LCashAllocator$ReceiptBook;", Cond.fieldLink RX3 79 "CashAllocator$ReceiptBook" "customer" "[I", Cond.fieldLink RX3 10 "CashAllocator" "billBook" "LCashAllocator$BillBook;", Cond.fieldLink RX3 43 "CashAllocator$BillBook" "count" "I", Cond.fieldLink RX3 85 "CashAllocator$ReceiptBook" "unapplied" "[I", Cond.fieldLink RX3 185 "CashAllocator$BillBook" "reference" "[I", Cond.methodLink RX3 179 yX0_customerNamedBy, Cond.instanceMethod yX0_customerNamedBy, Cond.selects RX0 yX0_customerNamedBy yX0_customerNamedBy, Cond.initialized RX0, Cond.code yX0_customerNamedBy cX0_customerNamedBy 3 (some .int), Cond.fieldLink RX0 45 "CashAllocator$BillBook" "count" "I", Cond.fieldLink RX0 18 "CashAllocator$BillBook" "reference" "[I", Cond.fieldLink RX0 9 "CashAllocator$BillBook" "customer" "[I", Cond.methodLink RX0 49 yX0_openSum, Cond.instanceMethod yX0_openSum, Cond.selects RX0 yX0_openSum yX0_openSum, Cond.code yX0_openSum cX0_openSum 2 (some .int), Cond.fieldLink RX0 15 "CashAllocator$BillBook" "amount" "[I", Cond.fieldLink RX0 27 "CashAllocator$BillBook" "paid" "[I", Cond.fieldLink RX0 30 "CashAllocator$BillBook" "taken" "[I", Cond.fieldLink RX0 36 "CashAllocator$BillBook" "disputed" "[I", Cond.fieldLink RX0 42 "CashAllocator$BillBook" "writtenOff" "[I", Cond.methodLink RX3 182 yX0_isOpenFor]
def wsX3_payNamedBills_r2 : List Cond := [Cond.instanceMethod yX0_isOpenFor, Cond.selects RX0 yX0_isOpenFor yX0_isOpenFor, Cond.code yX0_isOpenFor cX0_isOpenFor 3 (some .boolean), Cond.methodLink RX3 188 yX3_payBill, Cond.instanceMethod yX3_payBill, Cond.selects RX3 yX3_payBill yX3_payBill, Cond.initialized RX3, Cond.code yX3_payBill cX3_payBill 7 (some .boolean), Cond.fieldLink RX3 30 "CashAllocator" "today" "I", Cond.fieldLink RX3 135 "CashAllocator$BillBook" "paid" "[I", Cond.methodLink RX3 132 yX0_dueOn, Cond.instanceMethod yX0_dueOn, Cond.selects RX0 yX0_dueOn yX0_dueOn, Cond.code yX0_dueOn cX0_dueOn 4 (some .int), Cond.fieldLink RX0 21 "CashAllocator$BillBook" "discount" "[I", Cond.methodLink RX0 53 yX0_allowsDiscount, Cond.instanceMethod yX0_allowsDiscount, Cond.selects RX0 yX0_allowsDiscount yX0_allowsDiscount, Cond.code yX0_allowsDiscount cX0_allowsDiscount 3 (some .boolean), Cond.fieldLink RX0 24 "CashAllocator$BillBook" "lastDiscountDay" "[I", Cond.methodLink RX3 200 yX0_takeDiscount, Cond.instanceMethod yX0_takeDiscount, Cond.selects RX0 yX0_takeDiscount yX0_takeDiscount, Cond.code yX0_takeDiscount cX0_takeDiscount 4 none]
def wsX3_payNamedBills_r3 : List Cond := [Cond.fieldLink RX0 33 "CashAllocator$BillBook" "takenBy" "[I", Cond.methodLink RX3 203 yX2_addPayment, Cond.instanceMethod yX2_addPayment, Cond.selects RX2 yX2_addPayment yX2_addPayment, Cond.initialized RX2, Cond.code yX2_addPayment cX2_addPayment 4 none, Cond.fieldLink RX2 31 "CashAllocator$ReceiptBook" "sums" "[I", Cond.fieldLink RX2 34 "CashAllocator$ReceiptBook" "hasSum" "[Z", Cond.fieldLink RX2 18 "CashAllocator$ReceiptBook" "applied" "[I", Cond.fieldLink RX2 21 "CashAllocator$ReceiptBook" "unapplied" "[I", Cond.methodLink RX2 41 yX2_cell, Cond.static yX2_cell, Cond.code yX2_cell cX2_cell 2 (some .int), Cond.methodLink RX3 191 yX0_disputeRest, Cond.instanceMethod yX0_disputeRest, Cond.selects RX0 yX0_disputeRest yX0_disputeRest, Cond.code yX0_disputeRest cX0_disputeRest 3 none, Cond.fieldLink RX0 39 "CashAllocator$BillBook" "disputedBy" "[I"]
def wsX3_payNamedBills : List Cond := .code yX3_payNamedBills cX3_payNamedBills 6 none :: ((wsX3_payNamedBills_r1 ++ (wsX3_payNamedBills_r2 ++ wsX3_payNamedBills_r3)) ++ wsX30 ++ wsX20 ++ wsX00)
def wsX3_chooseExactSet_r1 : List Cond := [Cond.fieldLink RX3 26 "CashAllocator" "exactSet" "LCashAllocator$ExactSet;", Cond.fieldLink RX3 10 "CashAllocator" "billBook" "LCashAllocator$BillBook;", Cond.fieldLink RX3 43 "CashAllocator$BillBook" "count" "I", Cond.fieldLink RX3 30 "CashAllocator" "today" "I", Cond.methodLink RX3 206 yX1_clear, Cond.instanceMethod yX1_clear, Cond.selects RX1 yX1_clear yX1_clear, Cond.initialized RX1, Cond.code yX1_clear cX1_clear 1 none, Cond.fieldLink RX1 21 "CashAllocator$ExactSet" "count" "I", Cond.fieldLink RX1 18 "CashAllocator$ExactSet" "chosen" "[I", Cond.methodLink RX3 182 yX0_isOpenFor, Cond.instanceMethod yX0_isOpenFor, Cond.selects RX0 yX0_isOpenFor yX0_isOpenFor, Cond.initialized RX0, Cond.code yX0_isOpenFor cX0_isOpenFor 3 (some .boolean), Cond.fieldLink RX0 9 "CashAllocator$BillBook" "customer" "[I", Cond.methodLink RX0 49 yX0_openSum, Cond.instanceMethod yX0_openSum, Cond.selects RX0 yX0_openSum yX0_openSum, Cond.code yX0_openSum cX0_openSum 2 (some .int), Cond.fieldLink RX0 15 "CashAllocator$BillBook" "amount" "[I", Cond.fieldLink RX0 27 "CashAllocator$BillBook" "paid" "[I", Cond.fieldLink RX0 30 "CashAllocator$BillBook" "taken" "[I"]
def wsX3_chooseExactSet_r2 : List Cond := [Cond.fieldLink RX0 36 "CashAllocator$BillBook" "disputed" "[I", Cond.fieldLink RX0 42 "CashAllocator$BillBook" "writtenOff" "[I", Cond.methodLink RX3 132 yX0_dueOn, Cond.instanceMethod yX0_dueOn, Cond.selects RX0 yX0_dueOn yX0_dueOn, Cond.code yX0_dueOn cX0_dueOn 4 (some .int), Cond.fieldLink RX0 21 "CashAllocator$BillBook" "discount" "[I", Cond.methodLink RX0 53 yX0_allowsDiscount, Cond.instanceMethod yX0_allowsDiscount, Cond.selects RX0 yX0_allowsDiscount yX0_allowsDiscount, Cond.code yX0_allowsDiscount cX0_allowsDiscount 3 (some .boolean), Cond.fieldLink RX0 24 "CashAllocator$BillBook" "lastDiscountDay" "[I", Cond.methodLink RX3 209 yX1_offer, Cond.instanceMethod yX1_offer, Cond.selects RX1 yX1_offer yX1_offer, Cond.code yX1_offer cX1_offer 3 none, Cond.fieldLink RX1 9 "CashAllocator$ExactSet" "offered" "[I", Cond.fieldLink RX1 15 "CashAllocator$ExactSet" "dues" "[I", Cond.methodLink RX3 212 yX1_choose, Cond.instanceMethod yX1_choose, Cond.selects RX1 yX1_choose yX1_choose, Cond.code yX1_choose cX1_choose 2 none, Cond.methodLink RX1 25 yX1_chooseOne, Cond.instanceMethod yX1_chooseOne]
def wsX3_chooseExactSet_r3 : List Cond := [Cond.selects RX1 yX1_chooseOne yX1_chooseOne, Cond.code yX1_chooseOne cX1_chooseOne 3 (some .boolean), Cond.methodLink RX1 36 yX1_find, Cond.instanceMethod yX1_find, Cond.selects RX1 yX1_find yX1_find, Cond.code yX1_find cX1_find 4 (some .int), Cond.methodLink RX1 29 yX1_chooseTwo, Cond.instanceMethod yX1_chooseTwo, Cond.selects RX1 yX1_chooseTwo yX1_chooseTwo, Cond.code yX1_chooseTwo cX1_chooseTwo 4 (some .boolean), Cond.methodLink RX1 32 yX1_chooseThree, Cond.instanceMethod yX1_chooseThree, Cond.selects RX1 yX1_chooseThree yX1_chooseThree, Cond.code yX1_chooseThree cX1_chooseThree 5 none]
def wsX3_chooseExactSet : List Cond := .code yX3_chooseExactSet cX3_chooseExactSet 4 none :: ((wsX3_chooseExactSet_r1 ++ (wsX3_chooseExactSet_r2 ++ wsX3_chooseExactSet_r3)) ++ wsX30 ++ wsX00 ++ wsX10)
def wsX3_payExactSet_r1 : List Cond := [Cond.fieldLink RX3 19 "CashAllocator" "receiptBook" "LCashAllocator$ReceiptBook;", Cond.fieldLink RX3 79 "CashAllocator$ReceiptBook" "customer" "[I", Cond.fieldLink RX3 85 "CashAllocator$ReceiptBook" "unapplied" "[I", Cond.fieldLink RX3 26 "CashAllocator" "exactSet" "LCashAllocator$ExactSet;", Cond.fieldLink RX3 158 "CashAllocator$ExactSet" "chosen" "[I", Cond.fieldLink RX3 10 "CashAllocator" "billBook" "LCashAllocator$BillBook;", Cond.fieldLink RX3 43 "CashAllocator$BillBook" "count" "I", Cond.methodLink RX3 155 yX3_chooseExactSet, Cond.instanceMethod yX3_chooseExactSet, Cond.selects RX3 yX3_chooseExactSet yX3_chooseExactSet, Cond.initialized RX3, Cond.code yX3_chooseExactSet cX3_chooseExactSet 4 none, Cond.fieldLink RX3 30 "CashAllocator" "today" "I", Cond.methodLink RX3 206 yX1_clear, Cond.instanceMethod yX1_clear, Cond.selects RX1 yX1_clear yX1_clear, Cond.initialized RX1, Cond.code yX1_clear cX1_clear 1 none, Cond.fieldLink RX1 21 "CashAllocator$ExactSet" "count" "I", Cond.fieldLink RX1 18 "CashAllocator$ExactSet" "chosen" "[I", Cond.methodLink RX3 182 yX0_isOpenFor, Cond.instanceMethod yX0_isOpenFor, Cond.selects RX0 yX0_isOpenFor yX0_isOpenFor, Cond.initialized RX0]
def wsX3_payExactSet_r2 : List Cond := [Cond.code yX0_isOpenFor cX0_isOpenFor 3 (some .boolean), Cond.fieldLink RX0 9 "CashAllocator$BillBook" "customer" "[I", Cond.methodLink RX0 49 yX0_openSum, Cond.instanceMethod yX0_openSum, Cond.selects RX0 yX0_openSum yX0_openSum, Cond.code yX0_openSum cX0_openSum 2 (some .int), Cond.fieldLink RX0 15 "CashAllocator$BillBook" "amount" "[I", Cond.fieldLink RX0 27 "CashAllocator$BillBook" "paid" "[I", Cond.fieldLink RX0 30 "CashAllocator$BillBook" "taken" "[I", Cond.fieldLink RX0 36 "CashAllocator$BillBook" "disputed" "[I", Cond.fieldLink RX0 42 "CashAllocator$BillBook" "writtenOff" "[I", Cond.methodLink RX3 132 yX0_dueOn, Cond.instanceMethod yX0_dueOn, Cond.selects RX0 yX0_dueOn yX0_dueOn, Cond.code yX0_dueOn cX0_dueOn 4 (some .int), Cond.fieldLink RX0 21 "CashAllocator$BillBook" "discount" "[I", Cond.methodLink RX0 53 yX0_allowsDiscount, Cond.instanceMethod yX0_allowsDiscount, Cond.selects RX0 yX0_allowsDiscount yX0_allowsDiscount, Cond.code yX0_allowsDiscount cX0_allowsDiscount 3 (some .boolean), Cond.fieldLink RX0 24 "CashAllocator$BillBook" "lastDiscountDay" "[I", Cond.methodLink RX3 209 yX1_offer, Cond.instanceMethod yX1_offer, Cond.selects RX1 yX1_offer yX1_offer]
def wsX3_payExactSet_r3 : List Cond := [Cond.code yX1_offer cX1_offer 3 none, Cond.fieldLink RX1 9 "CashAllocator$ExactSet" "offered" "[I", Cond.fieldLink RX1 15 "CashAllocator$ExactSet" "dues" "[I", Cond.methodLink RX3 212 yX1_choose, Cond.instanceMethod yX1_choose, Cond.selects RX1 yX1_choose yX1_choose, Cond.code yX1_choose cX1_choose 2 none, Cond.methodLink RX1 25 yX1_chooseOne, Cond.instanceMethod yX1_chooseOne, Cond.selects RX1 yX1_chooseOne yX1_chooseOne, Cond.code yX1_chooseOne cX1_chooseOne 3 (some .boolean), Cond.methodLink RX1 36 yX1_find, Cond.instanceMethod yX1_find, Cond.selects RX1 yX1_find yX1_find, Cond.code yX1_find cX1_find 4 (some .int), Cond.methodLink RX1 29 yX1_chooseTwo, Cond.instanceMethod yX1_chooseTwo, Cond.selects RX1 yX1_chooseTwo yX1_chooseTwo, Cond.code yX1_chooseTwo cX1_chooseTwo 4 (some .boolean), Cond.methodLink RX1 32 yX1_chooseThree, Cond.instanceMethod yX1_chooseThree, Cond.selects RX1 yX1_chooseThree yX1_chooseThree, Cond.code yX1_chooseThree cX1_chooseThree 5 none, Cond.methodLink RX3 188 yX3_payBill]
def wsX3_payExactSet_r4 : List Cond := [Cond.instanceMethod yX3_payBill, Cond.selects RX3 yX3_payBill yX3_payBill, Cond.code yX3_payBill cX3_payBill 7 (some .boolean), Cond.fieldLink RX3 135 "CashAllocator$BillBook" "paid" "[I", Cond.methodLink RX3 200 yX0_takeDiscount, Cond.instanceMethod yX0_takeDiscount, Cond.selects RX0 yX0_takeDiscount yX0_takeDiscount, Cond.code yX0_takeDiscount cX0_takeDiscount 4 none, Cond.fieldLink RX0 33 "CashAllocator$BillBook" "takenBy" "[I", Cond.methodLink RX3 203 yX2_addPayment, Cond.instanceMethod yX2_addPayment, Cond.selects RX2 yX2_addPayment yX2_addPayment, Cond.initialized RX2, Cond.code yX2_addPayment cX2_addPayment 4 none, Cond.fieldLink RX2 31 "CashAllocator$ReceiptBook" "sums" "[I", Cond.fieldLink RX2 34 "CashAllocator$ReceiptBook" "hasSum" "[Z", Cond.fieldLink RX2 18 "CashAllocator$ReceiptBook" "applied" "[I", Cond.fieldLink RX2 21 "CashAllocator$ReceiptBook" "unapplied" "[I", Cond.methodLink RX2 41 yX2_cell, Cond.static yX2_cell, Cond.code yX2_cell cX2_cell 2 (some .int)]
def wsX3_payExactSet : List Cond := .code yX3_payExactSet cX3_payExactSet 4 none :: ((wsX3_payExactSet_r1 ++ (wsX3_payExactSet_r2 ++ (wsX3_payExactSet_r3 ++ wsX3_payExactSet_r4))) ++ wsX30 ++ wsX20 ++ wsX10 ++ wsX00)
def wsX3_payOldestBills_r1 : List Cond := [Cond.fieldLink RX3 19 "CashAllocator" "receiptBook" "LCashAllocator$ReceiptBook;", Cond.fieldLink RX3 79 "CashAllocator$ReceiptBook" "customer" "[I", Cond.fieldLink RX3 10 "CashAllocator" "billBook" "LCashAllocator$BillBook;", Cond.fieldLink RX3 43 "CashAllocator$BillBook" "count" "I", Cond.fieldLink RX3 85 "CashAllocator$ReceiptBook" "unapplied" "[I", Cond.methodLink RX3 182 yX0_isOpenFor, Cond.instanceMethod yX0_isOpenFor, Cond.selects RX0 yX0_isOpenFor yX0_isOpenFor, Cond.initialized RX0, Cond.code yX0_isOpenFor cX0_isOpenFor 3 (some .boolean), Cond.fieldLink RX0 9 "CashAllocator$BillBook" "customer" "[I", Cond.methodLink RX0 49 yX0_openSum, Cond.instanceMethod yX0_openSum, Cond.selects RX0 yX0_openSum yX0_openSum, Cond.code yX0_openSum cX0_openSum 2 (some .int), Cond.fieldLink RX0 15 "CashAllocator$BillBook" "amount" "[I", Cond.fieldLink RX0 27 "CashAllocator$BillBook" "paid" "[I", Cond.fieldLink RX0 30 "CashAllocator$BillBook" "taken" "[I", Cond.fieldLink RX0 36 "CashAllocator$BillBook" "disputed" "[I", Cond.fieldLink RX0 42 "CashAllocator$BillBook" "writtenOff" "[I", Cond.methodLink RX3 188 yX3_payBill, Cond.instanceMethod yX3_payBill, Cond.selects RX3 yX3_payBill yX3_payBill, Cond.initialized RX3]
def wsX3_payOldestBills_r2 : List Cond := [Cond.code yX3_payBill cX3_payBill 7 (some .boolean), Cond.fieldLink RX3 30 "CashAllocator" "today" "I", Cond.fieldLink RX3 135 "CashAllocator$BillBook" "paid" "[I", Cond.methodLink RX3 132 yX0_dueOn, Cond.instanceMethod yX0_dueOn, Cond.selects RX0 yX0_dueOn yX0_dueOn, Cond.code yX0_dueOn cX0_dueOn 4 (some .int), Cond.fieldLink RX0 21 "CashAllocator$BillBook" "discount" "[I", Cond.methodLink RX0 53 yX0_allowsDiscount, Cond.instanceMethod yX0_allowsDiscount, Cond.selects RX0 yX0_allowsDiscount yX0_allowsDiscount, Cond.code yX0_allowsDiscount cX0_allowsDiscount 3 (some .boolean), Cond.fieldLink RX0 24 "CashAllocator$BillBook" "lastDiscountDay" "[I", Cond.methodLink RX3 200 yX0_takeDiscount, Cond.instanceMethod yX0_takeDiscount, Cond.selects RX0 yX0_takeDiscount yX0_takeDiscount, Cond.code yX0_takeDiscount cX0_takeDiscount 4 none, Cond.fieldLink RX0 33 "CashAllocator$BillBook" "takenBy" "[I", Cond.methodLink RX3 203 yX2_addPayment, Cond.instanceMethod yX2_addPayment, Cond.selects RX2 yX2_addPayment yX2_addPayment, Cond.initialized RX2, Cond.code yX2_addPayment cX2_addPayment 4 none, Cond.fieldLink RX2 31 "CashAllocator$ReceiptBook" "sums" "[I"]
def wsX3_payOldestBills_r3 : List Cond := [Cond.fieldLink RX2 34 "CashAllocator$ReceiptBook" "hasSum" "[Z", Cond.fieldLink RX2 18 "CashAllocator$ReceiptBook" "applied" "[I", Cond.fieldLink RX2 21 "CashAllocator$ReceiptBook" "unapplied" "[I", Cond.methodLink RX2 41 yX2_cell, Cond.static yX2_cell, Cond.code yX2_cell cX2_cell 2 (some .int)]
def wsX3_payOldestBills : List Cond := .code yX3_payOldestBills cX3_payOldestBills 4 none :: ((wsX3_payOldestBills_r1 ++ (wsX3_payOldestBills_r2 ++ wsX3_payOldestBills_r3)) ++ wsX30 ++ wsX20 ++ wsX00)
def wsX3_payOtherBills_r1 : List Cond := [Cond.fieldLink RX3 19 "CashAllocator" "receiptBook" "LCashAllocator$ReceiptBook;", Cond.fieldLink RX3 79 "CashAllocator$ReceiptBook" "customer" "[I", Cond.fieldLink RX3 85 "CashAllocator$ReceiptBook" "unapplied" "[I", Cond.methodLink RX3 194 yX3_payExactSet, Cond.instanceMethod yX3_payExactSet, Cond.selects RX3 yX3_payExactSet yX3_payExactSet, Cond.initialized RX3, Cond.code yX3_payExactSet cX3_payExactSet 4 none, Cond.fieldLink RX3 26 "CashAllocator" "exactSet" "LCashAllocator$ExactSet;", Cond.fieldLink RX3 158 "CashAllocator$ExactSet" "chosen" "[I", Cond.fieldLink RX3 10 "CashAllocator" "billBook" "LCashAllocator$BillBook;", Cond.fieldLink RX3 43 "CashAllocator$BillBook" "count" "I", Cond.methodLink RX3 155 yX3_chooseExactSet, Cond.instanceMethod yX3_chooseExactSet, Cond.selects RX3 yX3_chooseExactSet yX3_chooseExactSet, Cond.code yX3_chooseExactSet cX3_chooseExactSet 4 none, Cond.fieldLink RX3 30 "CashAllocator" "today" "I", Cond.methodLink RX3 206 yX1_clear, Cond.instanceMethod yX1_clear, Cond.selects RX1 yX1_clear yX1_clear, Cond.initialized RX1, Cond.code yX1_clear cX1_clear 1 none, Cond.fieldLink RX1 21 "CashAllocator$ExactSet" "count" "I", Cond.fieldLink RX1 18 "CashAllocator$ExactSet" "chosen" "[I"]
def wsX3_payOtherBills_r2 : List Cond := [Cond.methodLink RX3 182 yX0_isOpenFor, Cond.instanceMethod yX0_isOpenFor, Cond.selects RX0 yX0_isOpenFor yX0_isOpenFor, Cond.initialized RX0, Cond.code yX0_isOpenFor cX0_isOpenFor 3 (some .boolean), Cond.fieldLink RX0 9 "CashAllocator$BillBook" "customer" "[I", Cond.methodLink RX0 49 yX0_openSum, Cond.instanceMethod yX0_openSum, Cond.selects RX0 yX0_openSum yX0_openSum, Cond.code yX0_openSum cX0_openSum 2 (some .int), Cond.fieldLink RX0 15 "CashAllocator$BillBook" "amount" "[I", Cond.fieldLink RX0 27 "CashAllocator$BillBook" "paid" "[I", Cond.fieldLink RX0 30 "CashAllocator$BillBook" "taken" "[I", Cond.fieldLink RX0 36 "CashAllocator$BillBook" "disputed" "[I", Cond.fieldLink RX0 42 "CashAllocator$BillBook" "writtenOff" "[I", Cond.methodLink RX3 132 yX0_dueOn, Cond.instanceMethod yX0_dueOn, Cond.selects RX0 yX0_dueOn yX0_dueOn, Cond.code yX0_dueOn cX0_dueOn 4 (some .int), Cond.fieldLink RX0 21 "CashAllocator$BillBook" "discount" "[I", Cond.methodLink RX0 53 yX0_allowsDiscount, Cond.instanceMethod yX0_allowsDiscount, Cond.selects RX0 yX0_allowsDiscount yX0_allowsDiscount, Cond.code yX0_allowsDiscount cX0_allowsDiscount 3 (some .boolean)]
def wsX3_payOtherBills_r3 : List Cond := [Cond.fieldLink RX0 24 "CashAllocator$BillBook" "lastDiscountDay" "[I", Cond.methodLink RX3 209 yX1_offer, Cond.instanceMethod yX1_offer, Cond.selects RX1 yX1_offer yX1_offer, Cond.code yX1_offer cX1_offer 3 none, Cond.fieldLink RX1 9 "CashAllocator$ExactSet" "offered" "[I", Cond.fieldLink RX1 15 "CashAllocator$ExactSet" "dues" "[I", Cond.methodLink RX3 212 yX1_choose, Cond.instanceMethod yX1_choose, Cond.selects RX1 yX1_choose yX1_choose, Cond.code yX1_choose cX1_choose 2 none, Cond.methodLink RX1 25 yX1_chooseOne, Cond.instanceMethod yX1_chooseOne, Cond.selects RX1 yX1_chooseOne yX1_chooseOne, Cond.code yX1_chooseOne cX1_chooseOne 3 (some .boolean), Cond.methodLink RX1 36 yX1_find, Cond.instanceMethod yX1_find, Cond.selects RX1 yX1_find yX1_find, Cond.code yX1_find cX1_find 4 (some .int), Cond.methodLink RX1 29 yX1_chooseTwo, Cond.instanceMethod yX1_chooseTwo, Cond.selects RX1 yX1_chooseTwo yX1_chooseTwo, Cond.code yX1_chooseTwo cX1_chooseTwo 4 (some .boolean), Cond.methodLink RX1 32 yX1_chooseThree]
def wsX3_payOtherBills_r4 : List Cond := [Cond.instanceMethod yX1_chooseThree, Cond.selects RX1 yX1_chooseThree yX1_chooseThree, Cond.code yX1_chooseThree cX1_chooseThree 5 none, Cond.methodLink RX3 188 yX3_payBill, Cond.instanceMethod yX3_payBill, Cond.selects RX3 yX3_payBill yX3_payBill, Cond.code yX3_payBill cX3_payBill 7 (some .boolean), Cond.fieldLink RX3 135 "CashAllocator$BillBook" "paid" "[I", Cond.methodLink RX3 200 yX0_takeDiscount, Cond.instanceMethod yX0_takeDiscount, Cond.selects RX0 yX0_takeDiscount yX0_takeDiscount, Cond.code yX0_takeDiscount cX0_takeDiscount 4 none, Cond.fieldLink RX0 33 "CashAllocator$BillBook" "takenBy" "[I", Cond.methodLink RX3 203 yX2_addPayment, Cond.instanceMethod yX2_addPayment, Cond.selects RX2 yX2_addPayment yX2_addPayment, Cond.initialized RX2, Cond.code yX2_addPayment cX2_addPayment 4 none, Cond.fieldLink RX2 31 "CashAllocator$ReceiptBook" "sums" "[I", Cond.fieldLink RX2 34 "CashAllocator$ReceiptBook" "hasSum" "[Z", Cond.fieldLink RX2 18 "CashAllocator$ReceiptBook" "applied" "[I", Cond.fieldLink RX2 21 "CashAllocator$ReceiptBook" "unapplied" "[I", Cond.methodLink RX2 41 yX2_cell, Cond.static yX2_cell]
def wsX3_payOtherBills_r5 : List Cond := [Cond.code yX2_cell cX2_cell 2 (some .int), Cond.methodLink RX3 197 yX3_payOldestBills, Cond.instanceMethod yX3_payOldestBills, Cond.selects RX3 yX3_payOldestBills yX3_payOldestBills, Cond.code yX3_payOldestBills cX3_payOldestBills 4 none]
def wsX3_payOtherBills : List Cond := .code yX3_payOtherBills cX3_payOtherBills 2 none :: ((wsX3_payOtherBills_r1 ++ (wsX3_payOtherBills_r2 ++ (wsX3_payOtherBills_r3 ++ (wsX3_payOtherBills_r4 ++ wsX3_payOtherBills_r5)))) ++ wsX30 ++ wsX20 ++ wsX10 ++ wsX00)
def wsX3_receive_r1 : List Cond := [Cond.classLink RX3 46 "java/lang/IllegalStateException", Cond.initialized "java/lang/IllegalStateException", Cond.constant RX3 38 (1000000), Cond.fieldLink RX3 19 "CashAllocator" "receiptBook" "LCashAllocator$ReceiptBook;", Cond.fieldLink RX3 61 "CashAllocator$ReceiptBook" "count" "I", Cond.methodLink RX3 34 yX3_requireCustomer, Cond.static yX3_requireCustomer, Cond.initialized RX3, Cond.code yX3_requireCustomer cX3_requireCustomer 1 none, Cond.classLink RX3 145 "java/lang/IndexOutOfBoundsException", Cond.initialized "java/lang/IndexOutOfBoundsException", Cond.methodLink RX3 39 yX3_requireWithin, Cond.static yX3_requireWithin, Cond.code yX3_requireWithin cX3_requireWithin 3 none, Cond.classLink RX3 150 "java/lang/IllegalArgumentException", Cond.initialized "java/lang/IllegalArgumentException", Cond.methodLink RX3 64 yX2_add, Cond.instanceMethod yX2_add, Cond.selects RX2 yX2_add yX2_add, Cond.initialized RX2, Cond.code yX2_add cX2_add 4 (some .int), Cond.fieldLink RX2 37 "CashAllocator$ReceiptBook" "count" "I", Cond.fieldLink RX2 9 "CashAllocator$ReceiptBook" "customer" "[I", Cond.fieldLink RX2 15 "CashAllocator$ReceiptBook" "amount" "[I"]
def wsX3_receive_r2 : List Cond := [Cond.fieldLink RX2 21 "CashAllocator$ReceiptBook" "unapplied" "[I", Cond.methodLink RX3 66 yX3_payNamedBills, Cond.instanceMethod yX3_payNamedBills, Cond.selects RX3 yX3_payNamedBills yX3_payNamedBills, Cond.code yX3_payNamedBills cX3_payNamedBills 6 none, Cond.fieldLink RX3 79 "CashAllocator$ReceiptBook" "customer" "[I", Cond.fieldLink RX3 10 "CashAllocator" "billBook" "LCashAllocator$BillBook;", Cond.fieldLink RX3 43 "CashAllocator$BillBook" "count" "I", Cond.fieldLink RX3 85 "CashAllocator$ReceiptBook" "unapplied" "[I", Cond.fieldLink RX3 185 "CashAllocator$BillBook" "reference" "[I", Cond.methodLink RX3 179 yX0_customerNamedBy, Cond.instanceMethod yX0_customerNamedBy, Cond.selects RX0 yX0_customerNamedBy yX0_customerNamedBy, Cond.initialized RX0, Cond.code yX0_customerNamedBy cX0_customerNamedBy 3 (some .int), Cond.fieldLink RX0 45 "CashAllocator$BillBook" "count" "I", Cond.fieldLink RX0 18 "CashAllocator$BillBook" "reference" "[I", Cond.fieldLink RX0 9 "CashAllocator$BillBook" "customer" "[I", Cond.methodLink RX0 49 yX0_openSum, Cond.instanceMethod yX0_openSum, Cond.selects RX0 yX0_openSum yX0_openSum, Cond.code yX0_openSum cX0_openSum 2 (some .int), Cond.fieldLink RX0 15 "CashAllocator$BillBook" "amount" "[I", Cond.fieldLink RX0 27 "CashAllocator$BillBook" "paid" "[I"]
def wsX3_receive_r3 : List Cond := [Cond.fieldLink RX0 30 "CashAllocator$BillBook" "taken" "[I", Cond.fieldLink RX0 36 "CashAllocator$BillBook" "disputed" "[I", Cond.fieldLink RX0 42 "CashAllocator$BillBook" "writtenOff" "[I", Cond.methodLink RX3 182 yX0_isOpenFor, Cond.instanceMethod yX0_isOpenFor, Cond.selects RX0 yX0_isOpenFor yX0_isOpenFor, Cond.code yX0_isOpenFor cX0_isOpenFor 3 (some .boolean), Cond.methodLink RX3 188 yX3_payBill, Cond.instanceMethod yX3_payBill, Cond.selects RX3 yX3_payBill yX3_payBill, Cond.code yX3_payBill cX3_payBill 7 (some .boolean), Cond.fieldLink RX3 30 "CashAllocator" "today" "I", Cond.fieldLink RX3 135 "CashAllocator$BillBook" "paid" "[I", Cond.methodLink RX3 132 yX0_dueOn, Cond.instanceMethod yX0_dueOn, Cond.selects RX0 yX0_dueOn yX0_dueOn, Cond.code yX0_dueOn cX0_dueOn 4 (some .int), Cond.fieldLink RX0 21 "CashAllocator$BillBook" "discount" "[I", Cond.methodLink RX0 53 yX0_allowsDiscount, Cond.instanceMethod yX0_allowsDiscount, Cond.selects RX0 yX0_allowsDiscount yX0_allowsDiscount, Cond.code yX0_allowsDiscount cX0_allowsDiscount 3 (some .boolean), Cond.fieldLink RX0 24 "CashAllocator$BillBook" "lastDiscountDay" "[I", Cond.methodLink RX3 200 yX0_takeDiscount]
def wsX3_receive_r4 : List Cond := [Cond.instanceMethod yX0_takeDiscount, Cond.selects RX0 yX0_takeDiscount yX0_takeDiscount, Cond.code yX0_takeDiscount cX0_takeDiscount 4 none, Cond.fieldLink RX0 33 "CashAllocator$BillBook" "takenBy" "[I", Cond.methodLink RX3 203 yX2_addPayment, Cond.instanceMethod yX2_addPayment, Cond.selects RX2 yX2_addPayment yX2_addPayment, Cond.code yX2_addPayment cX2_addPayment 4 none, Cond.fieldLink RX2 31 "CashAllocator$ReceiptBook" "sums" "[I", Cond.fieldLink RX2 34 "CashAllocator$ReceiptBook" "hasSum" "[Z", Cond.fieldLink RX2 18 "CashAllocator$ReceiptBook" "applied" "[I", Cond.methodLink RX2 41 yX2_cell, Cond.static yX2_cell, Cond.code yX2_cell cX2_cell 2 (some .int), Cond.methodLink RX3 191 yX0_disputeRest, Cond.instanceMethod yX0_disputeRest, Cond.selects RX0 yX0_disputeRest yX0_disputeRest, Cond.code yX0_disputeRest cX0_disputeRest 3 none, Cond.fieldLink RX0 39 "CashAllocator$BillBook" "disputedBy" "[I", Cond.methodLink RX3 70 yX3_payOtherBills, Cond.instanceMethod yX3_payOtherBills, Cond.selects RX3 yX3_payOtherBills yX3_payOtherBills, Cond.code yX3_payOtherBills cX3_payOtherBills 2 none, Cond.methodLink RX3 194 yX3_payExactSet]
def wsX3_receive_r5 : List Cond := [Cond.instanceMethod yX3_payExactSet, Cond.selects RX3 yX3_payExactSet yX3_payExactSet, Cond.code yX3_payExactSet cX3_payExactSet 4 none, Cond.fieldLink RX3 26 "CashAllocator" "exactSet" "LCashAllocator$ExactSet;", Cond.fieldLink RX3 158 "CashAllocator$ExactSet" "chosen" "[I", Cond.methodLink RX3 155 yX3_chooseExactSet, Cond.instanceMethod yX3_chooseExactSet, Cond.selects RX3 yX3_chooseExactSet yX3_chooseExactSet, Cond.code yX3_chooseExactSet cX3_chooseExactSet 4 none, Cond.methodLink RX3 206 yX1_clear, Cond.instanceMethod yX1_clear, Cond.selects RX1 yX1_clear yX1_clear, Cond.initialized RX1, Cond.code yX1_clear cX1_clear 1 none, Cond.fieldLink RX1 21 "CashAllocator$ExactSet" "count" "I", Cond.fieldLink RX1 18 "CashAllocator$ExactSet" "chosen" "[I", Cond.methodLink RX3 209 yX1_offer, Cond.instanceMethod yX1_offer, Cond.selects RX1 yX1_offer yX1_offer, Cond.code yX1_offer cX1_offer 3 none, Cond.fieldLink RX1 9 "CashAllocator$ExactSet" "offered" "[I", Cond.fieldLink RX1 15 "CashAllocator$ExactSet" "dues" "[I", Cond.methodLink RX3 212 yX1_choose, Cond.instanceMethod yX1_choose]
def wsX3_receive_r6 : List Cond := [Cond.selects RX1 yX1_choose yX1_choose, Cond.code yX1_choose cX1_choose 2 none, Cond.methodLink RX1 25 yX1_chooseOne, Cond.instanceMethod yX1_chooseOne, Cond.selects RX1 yX1_chooseOne yX1_chooseOne, Cond.code yX1_chooseOne cX1_chooseOne 3 (some .boolean), Cond.methodLink RX1 36 yX1_find, Cond.instanceMethod yX1_find, Cond.selects RX1 yX1_find yX1_find, Cond.code yX1_find cX1_find 4 (some .int), Cond.methodLink RX1 29 yX1_chooseTwo, Cond.instanceMethod yX1_chooseTwo, Cond.selects RX1 yX1_chooseTwo yX1_chooseTwo, Cond.code yX1_chooseTwo cX1_chooseTwo 4 (some .boolean), Cond.methodLink RX1 32 yX1_chooseThree, Cond.instanceMethod yX1_chooseThree, Cond.selects RX1 yX1_chooseThree yX1_chooseThree, Cond.code yX1_chooseThree cX1_chooseThree 5 none, Cond.methodLink RX3 197 yX3_payOldestBills, Cond.instanceMethod yX3_payOldestBills, Cond.selects RX3 yX3_payOldestBills yX3_payOldestBills, Cond.code yX3_payOldestBills cX3_payOldestBills 4 none]
def wsX3_receive : List Cond := .code yX3_receive cX3_receive 5 (some .int) :: ((wsX3_receive_r1 ++ (wsX3_receive_r2 ++ (wsX3_receive_r3 ++ (wsX3_receive_r4 ++ (wsX3_receive_r5 ++ wsX3_receive_r6))))) ++ wsX30 ++ wsX20 ++ wsX00 ++ wsX10 ++ (vx_atS RX3 50 "java/lang/IllegalStateException" ["java/lang/RuntimeException", "java/lang/Exception"]).filter goodWord ++ (vx_atS RX3 149 "java/lang/IndexOutOfBoundsException" ["java/lang/RuntimeException", "java/lang/Exception"]).filter goodWord ++ (vx_atS RX3 154 "java/lang/IllegalArgumentException" ["java/lang/RuntimeException", "java/lang/Exception"]).filter goodWord)
def wsX3_requireReceipt : List Cond := .code yX3_requireReceipt cX3_requireReceipt 2 none :: ([.classLink RX3 145 "java/lang/IndexOutOfBoundsException", .initialized "java/lang/IndexOutOfBoundsException", .fieldLink RX3 19 "CashAllocator" "receiptBook" "LCashAllocator$ReceiptBook;", .fieldLink RX3 61 "CashAllocator$ReceiptBook" "count" "I"] ++ wsX30 ++ wsX20 ++ (vx_atS RX3 149 "java/lang/IndexOutOfBoundsException" ["java/lang/RuntimeException", "java/lang/Exception"]).filter goodWord)
def wsX3_requireNotBounced : List Cond := .code yX3_requireNotBounced cX3_requireNotBounced 2 none :: ([.classLink RX3 46 "java/lang/IllegalStateException", .initialized "java/lang/IllegalStateException", .fieldLink RX3 19 "CashAllocator" "receiptBook" "LCashAllocator$ReceiptBook;", .fieldLink RX3 161 "CashAllocator$ReceiptBook" "isBounced" "[Z"] ++ wsX30 ++ wsX20 ++ (vx_atS RX3 50 "java/lang/IllegalStateException" ["java/lang/RuntimeException", "java/lang/Exception"]).filter goodWord)
def wsX3_assign_r1 : List Cond := [Cond.classLink RX3 46 "java/lang/IllegalStateException", Cond.initialized "java/lang/IllegalStateException", Cond.fieldLink RX3 19 "CashAllocator" "receiptBook" "LCashAllocator$ReceiptBook;", Cond.fieldLink RX3 79 "CashAllocator$ReceiptBook" "customer" "[I", Cond.fieldLink RX3 85 "CashAllocator$ReceiptBook" "unapplied" "[I", Cond.methodLink RX3 73 yX3_requireReceipt, Cond.instanceMethod yX3_requireReceipt, Cond.selects RX3 yX3_requireReceipt yX3_requireReceipt, Cond.initialized RX3, Cond.code yX3_requireReceipt cX3_requireReceipt 2 none, Cond.classLink RX3 145 "java/lang/IndexOutOfBoundsException", Cond.initialized "java/lang/IndexOutOfBoundsException", Cond.fieldLink RX3 61 "CashAllocator$ReceiptBook" "count" "I", Cond.methodLink RX3 34 yX3_requireCustomer, Cond.static yX3_requireCustomer, Cond.code yX3_requireCustomer cX3_requireCustomer 1 none, Cond.methodLink RX3 76 yX3_requireNotBounced, Cond.instanceMethod yX3_requireNotBounced, Cond.selects RX3 yX3_requireNotBounced yX3_requireNotBounced, Cond.code yX3_requireNotBounced cX3_requireNotBounced 2 none, Cond.fieldLink RX3 161 "CashAllocator$ReceiptBook" "isBounced" "[Z", Cond.methodLink RX3 70 yX3_payOtherBills, Cond.instanceMethod yX3_payOtherBills, Cond.selects RX3 yX3_payOtherBills yX3_payOtherBills]
def wsX3_assign_r2 : List Cond := [Cond.code yX3_payOtherBills cX3_payOtherBills 2 none, Cond.methodLink RX3 194 yX3_payExactSet, Cond.instanceMethod yX3_payExactSet, Cond.selects RX3 yX3_payExactSet yX3_payExactSet, Cond.code yX3_payExactSet cX3_payExactSet 4 none, Cond.fieldLink RX3 26 "CashAllocator" "exactSet" "LCashAllocator$ExactSet;", Cond.fieldLink RX3 158 "CashAllocator$ExactSet" "chosen" "[I", Cond.fieldLink RX3 10 "CashAllocator" "billBook" "LCashAllocator$BillBook;", Cond.fieldLink RX3 43 "CashAllocator$BillBook" "count" "I", Cond.methodLink RX3 155 yX3_chooseExactSet, Cond.instanceMethod yX3_chooseExactSet, Cond.selects RX3 yX3_chooseExactSet yX3_chooseExactSet, Cond.code yX3_chooseExactSet cX3_chooseExactSet 4 none, Cond.fieldLink RX3 30 "CashAllocator" "today" "I", Cond.methodLink RX3 206 yX1_clear, Cond.instanceMethod yX1_clear, Cond.selects RX1 yX1_clear yX1_clear, Cond.initialized RX1, Cond.code yX1_clear cX1_clear 1 none, Cond.fieldLink RX1 21 "CashAllocator$ExactSet" "count" "I", Cond.fieldLink RX1 18 "CashAllocator$ExactSet" "chosen" "[I", Cond.methodLink RX3 182 yX0_isOpenFor, Cond.instanceMethod yX0_isOpenFor, Cond.selects RX0 yX0_isOpenFor yX0_isOpenFor]
def wsX3_assign_r3 : List Cond := [Cond.initialized RX0, Cond.code yX0_isOpenFor cX0_isOpenFor 3 (some .boolean), Cond.fieldLink RX0 9 "CashAllocator$BillBook" "customer" "[I", Cond.methodLink RX0 49 yX0_openSum, Cond.instanceMethod yX0_openSum, Cond.selects RX0 yX0_openSum yX0_openSum, Cond.code yX0_openSum cX0_openSum 2 (some .int), Cond.fieldLink RX0 15 "CashAllocator$BillBook" "amount" "[I", Cond.fieldLink RX0 27 "CashAllocator$BillBook" "paid" "[I", Cond.fieldLink RX0 30 "CashAllocator$BillBook" "taken" "[I", Cond.fieldLink RX0 36 "CashAllocator$BillBook" "disputed" "[I", Cond.fieldLink RX0 42 "CashAllocator$BillBook" "writtenOff" "[I", Cond.methodLink RX3 132 yX0_dueOn, Cond.instanceMethod yX0_dueOn, Cond.selects RX0 yX0_dueOn yX0_dueOn, Cond.code yX0_dueOn cX0_dueOn 4 (some .int), Cond.fieldLink RX0 21 "CashAllocator$BillBook" "discount" "[I", Cond.methodLink RX0 53 yX0_allowsDiscount, Cond.instanceMethod yX0_allowsDiscount, Cond.selects RX0 yX0_allowsDiscount yX0_allowsDiscount, Cond.code yX0_allowsDiscount cX0_allowsDiscount 3 (some .boolean), Cond.fieldLink RX0 24 "CashAllocator$BillBook" "lastDiscountDay" "[I", Cond.methodLink RX3 209 yX1_offer, Cond.instanceMethod yX1_offer]
def wsX3_assign_r4 : List Cond := [Cond.selects RX1 yX1_offer yX1_offer, Cond.code yX1_offer cX1_offer 3 none, Cond.fieldLink RX1 9 "CashAllocator$ExactSet" "offered" "[I", Cond.fieldLink RX1 15 "CashAllocator$ExactSet" "dues" "[I", Cond.methodLink RX3 212 yX1_choose, Cond.instanceMethod yX1_choose, Cond.selects RX1 yX1_choose yX1_choose, Cond.code yX1_choose cX1_choose 2 none, Cond.methodLink RX1 25 yX1_chooseOne, Cond.instanceMethod yX1_chooseOne, Cond.selects RX1 yX1_chooseOne yX1_chooseOne, Cond.code yX1_chooseOne cX1_chooseOne 3 (some .boolean), Cond.methodLink RX1 36 yX1_find, Cond.instanceMethod yX1_find, Cond.selects RX1 yX1_find yX1_find, Cond.code yX1_find cX1_find 4 (some .int), Cond.methodLink RX1 29 yX1_chooseTwo, Cond.instanceMethod yX1_chooseTwo, Cond.selects RX1 yX1_chooseTwo yX1_chooseTwo, Cond.code yX1_chooseTwo cX1_chooseTwo 4 (some .boolean), Cond.methodLink RX1 32 yX1_chooseThree, Cond.instanceMethod yX1_chooseThree, Cond.selects RX1 yX1_chooseThree yX1_chooseThree, Cond.code yX1_chooseThree cX1_chooseThree 5 none]
def wsX3_assign_r5 : List Cond := [Cond.methodLink RX3 188 yX3_payBill, Cond.instanceMethod yX3_payBill, Cond.selects RX3 yX3_payBill yX3_payBill, Cond.code yX3_payBill cX3_payBill 7 (some .boolean), Cond.fieldLink RX3 135 "CashAllocator$BillBook" "paid" "[I", Cond.methodLink RX3 200 yX0_takeDiscount, Cond.instanceMethod yX0_takeDiscount, Cond.selects RX0 yX0_takeDiscount yX0_takeDiscount, Cond.code yX0_takeDiscount cX0_takeDiscount 4 none, Cond.fieldLink RX0 33 "CashAllocator$BillBook" "takenBy" "[I", Cond.methodLink RX3 203 yX2_addPayment, Cond.instanceMethod yX2_addPayment, Cond.selects RX2 yX2_addPayment yX2_addPayment, Cond.initialized RX2, Cond.code yX2_addPayment cX2_addPayment 4 none, Cond.fieldLink RX2 31 "CashAllocator$ReceiptBook" "sums" "[I", Cond.fieldLink RX2 34 "CashAllocator$ReceiptBook" "hasSum" "[Z", Cond.fieldLink RX2 18 "CashAllocator$ReceiptBook" "applied" "[I", Cond.fieldLink RX2 21 "CashAllocator$ReceiptBook" "unapplied" "[I", Cond.methodLink RX2 41 yX2_cell, Cond.static yX2_cell, Cond.code yX2_cell cX2_cell 2 (some .int), Cond.methodLink RX3 197 yX3_payOldestBills, Cond.instanceMethod yX3_payOldestBills]
def wsX3_assign_r6 : List Cond := [Cond.selects RX3 yX3_payOldestBills yX3_payOldestBills, Cond.code yX3_payOldestBills cX3_payOldestBills 4 none]
def wsX3_assign : List Cond := .code yX3_assign cX3_assign 3 (some .int) :: ((wsX3_assign_r1 ++ (wsX3_assign_r2 ++ (wsX3_assign_r3 ++ (wsX3_assign_r4 ++ (wsX3_assign_r5 ++ wsX3_assign_r6))))) ++ wsX30 ++ wsX20 ++ wsX10 ++ wsX00 ++ (vx_atS RX3 50 "java/lang/IllegalStateException" ["java/lang/RuntimeException", "java/lang/Exception"]).filter goodWord ++ (vx_atS RX3 149 "java/lang/IndexOutOfBoundsException" ["java/lang/RuntimeException", "java/lang/Exception"]).filter goodWord)
def wsX3_apply_r1 : List Cond := [Cond.classLink RX3 46 "java/lang/IllegalStateException", Cond.initialized "java/lang/IllegalStateException", Cond.fieldLink RX3 19 "CashAllocator" "receiptBook" "LCashAllocator$ReceiptBook;", Cond.fieldLink RX3 79 "CashAllocator$ReceiptBook" "customer" "[I", Cond.fieldLink RX3 85 "CashAllocator$ReceiptBook" "unapplied" "[I", Cond.methodLink RX3 73 yX3_requireReceipt, Cond.instanceMethod yX3_requireReceipt, Cond.selects RX3 yX3_requireReceipt yX3_requireReceipt, Cond.initialized RX3, Cond.code yX3_requireReceipt cX3_requireReceipt 2 none, Cond.classLink RX3 145 "java/lang/IndexOutOfBoundsException", Cond.initialized "java/lang/IndexOutOfBoundsException", Cond.fieldLink RX3 61 "CashAllocator$ReceiptBook" "count" "I", Cond.methodLink RX3 76 yX3_requireNotBounced, Cond.instanceMethod yX3_requireNotBounced, Cond.selects RX3 yX3_requireNotBounced yX3_requireNotBounced, Cond.code yX3_requireNotBounced cX3_requireNotBounced 2 none, Cond.fieldLink RX3 161 "CashAllocator$ReceiptBook" "isBounced" "[Z", Cond.methodLink RX3 70 yX3_payOtherBills, Cond.instanceMethod yX3_payOtherBills, Cond.selects RX3 yX3_payOtherBills yX3_payOtherBills, Cond.code yX3_payOtherBills cX3_payOtherBills 2 none, Cond.methodLink RX3 194 yX3_payExactSet, Cond.instanceMethod yX3_payExactSet]
def wsX3_apply_r2 : List Cond := [Cond.selects RX3 yX3_payExactSet yX3_payExactSet, Cond.code yX3_payExactSet cX3_payExactSet 4 none, Cond.fieldLink RX3 26 "CashAllocator" "exactSet" "LCashAllocator$ExactSet;", Cond.fieldLink RX3 158 "CashAllocator$ExactSet" "chosen" "[I", Cond.fieldLink RX3 10 "CashAllocator" "billBook" "LCashAllocator$BillBook;", Cond.fieldLink RX3 43 "CashAllocator$BillBook" "count" "I", Cond.methodLink RX3 155 yX3_chooseExactSet, Cond.instanceMethod yX3_chooseExactSet, Cond.selects RX3 yX3_chooseExactSet yX3_chooseExactSet, Cond.code yX3_chooseExactSet cX3_chooseExactSet 4 none, Cond.fieldLink RX3 30 "CashAllocator" "today" "I", Cond.methodLink RX3 206 yX1_clear, Cond.instanceMethod yX1_clear, Cond.selects RX1 yX1_clear yX1_clear, Cond.initialized RX1, Cond.code yX1_clear cX1_clear 1 none, Cond.fieldLink RX1 21 "CashAllocator$ExactSet" "count" "I", Cond.fieldLink RX1 18 "CashAllocator$ExactSet" "chosen" "[I", Cond.methodLink RX3 182 yX0_isOpenFor, Cond.instanceMethod yX0_isOpenFor, Cond.selects RX0 yX0_isOpenFor yX0_isOpenFor, Cond.initialized RX0, Cond.code yX0_isOpenFor cX0_isOpenFor 3 (some .boolean), Cond.fieldLink RX0 9 "CashAllocator$BillBook" "customer" "[I"]
def wsX3_apply_r3 : List Cond := [Cond.methodLink RX0 49 yX0_openSum, Cond.instanceMethod yX0_openSum, Cond.selects RX0 yX0_openSum yX0_openSum, Cond.code yX0_openSum cX0_openSum 2 (some .int), Cond.fieldLink RX0 15 "CashAllocator$BillBook" "amount" "[I", Cond.fieldLink RX0 27 "CashAllocator$BillBook" "paid" "[I", Cond.fieldLink RX0 30 "CashAllocator$BillBook" "taken" "[I", Cond.fieldLink RX0 36 "CashAllocator$BillBook" "disputed" "[I", Cond.fieldLink RX0 42 "CashAllocator$BillBook" "writtenOff" "[I", Cond.methodLink RX3 132 yX0_dueOn, Cond.instanceMethod yX0_dueOn, Cond.selects RX0 yX0_dueOn yX0_dueOn, Cond.code yX0_dueOn cX0_dueOn 4 (some .int), Cond.fieldLink RX0 21 "CashAllocator$BillBook" "discount" "[I", Cond.methodLink RX0 53 yX0_allowsDiscount, Cond.instanceMethod yX0_allowsDiscount, Cond.selects RX0 yX0_allowsDiscount yX0_allowsDiscount, Cond.code yX0_allowsDiscount cX0_allowsDiscount 3 (some .boolean), Cond.fieldLink RX0 24 "CashAllocator$BillBook" "lastDiscountDay" "[I", Cond.methodLink RX3 209 yX1_offer, Cond.instanceMethod yX1_offer, Cond.selects RX1 yX1_offer yX1_offer, Cond.code yX1_offer cX1_offer 3 none, Cond.fieldLink RX1 9 "CashAllocator$ExactSet" "offered" "[I"]
def wsX3_apply_r4 : List Cond := [Cond.fieldLink RX1 15 "CashAllocator$ExactSet" "dues" "[I", Cond.methodLink RX3 212 yX1_choose, Cond.instanceMethod yX1_choose, Cond.selects RX1 yX1_choose yX1_choose, Cond.code yX1_choose cX1_choose 2 none, Cond.methodLink RX1 25 yX1_chooseOne, Cond.instanceMethod yX1_chooseOne, Cond.selects RX1 yX1_chooseOne yX1_chooseOne, Cond.code yX1_chooseOne cX1_chooseOne 3 (some .boolean), Cond.methodLink RX1 36 yX1_find, Cond.instanceMethod yX1_find, Cond.selects RX1 yX1_find yX1_find, Cond.code yX1_find cX1_find 4 (some .int), Cond.methodLink RX1 29 yX1_chooseTwo, Cond.instanceMethod yX1_chooseTwo, Cond.selects RX1 yX1_chooseTwo yX1_chooseTwo, Cond.code yX1_chooseTwo cX1_chooseTwo 4 (some .boolean), Cond.methodLink RX1 32 yX1_chooseThree, Cond.instanceMethod yX1_chooseThree, Cond.selects RX1 yX1_chooseThree yX1_chooseThree, Cond.code yX1_chooseThree cX1_chooseThree 5 none, Cond.methodLink RX3 188 yX3_payBill, Cond.instanceMethod yX3_payBill, Cond.selects RX3 yX3_payBill yX3_payBill]
def wsX3_apply_r5 : List Cond := [Cond.code yX3_payBill cX3_payBill 7 (some .boolean), Cond.fieldLink RX3 135 "CashAllocator$BillBook" "paid" "[I", Cond.methodLink RX3 200 yX0_takeDiscount, Cond.instanceMethod yX0_takeDiscount, Cond.selects RX0 yX0_takeDiscount yX0_takeDiscount, Cond.code yX0_takeDiscount cX0_takeDiscount 4 none, Cond.fieldLink RX0 33 "CashAllocator$BillBook" "takenBy" "[I", Cond.methodLink RX3 203 yX2_addPayment, Cond.instanceMethod yX2_addPayment, Cond.selects RX2 yX2_addPayment yX2_addPayment, Cond.initialized RX2, Cond.code yX2_addPayment cX2_addPayment 4 none, Cond.fieldLink RX2 31 "CashAllocator$ReceiptBook" "sums" "[I", Cond.fieldLink RX2 34 "CashAllocator$ReceiptBook" "hasSum" "[Z", Cond.fieldLink RX2 18 "CashAllocator$ReceiptBook" "applied" "[I", Cond.fieldLink RX2 21 "CashAllocator$ReceiptBook" "unapplied" "[I", Cond.methodLink RX2 41 yX2_cell, Cond.static yX2_cell, Cond.code yX2_cell cX2_cell 2 (some .int), Cond.methodLink RX3 197 yX3_payOldestBills, Cond.instanceMethod yX3_payOldestBills, Cond.selects RX3 yX3_payOldestBills yX3_payOldestBills, Cond.code yX3_payOldestBills cX3_payOldestBills 4 none]
def wsX3_apply : List Cond := .code yX3_apply cX3_apply 2 (some .int) :: ((wsX3_apply_r1 ++ (wsX3_apply_r2 ++ (wsX3_apply_r3 ++ (wsX3_apply_r4 ++ wsX3_apply_r5)))) ++ wsX30 ++ wsX20 ++ wsX10 ++ wsX00 ++ (vx_atS RX3 50 "java/lang/IllegalStateException" ["java/lang/RuntimeException", "java/lang/Exception"]).filter goodWord ++ (vx_atS RX3 149 "java/lang/IndexOutOfBoundsException" ["java/lang/RuntimeException", "java/lang/Exception"]).filter goodWord)
def wsX3_payBack : List Cond := .code yX3_payBack cX3_payBack 2 (some .int) :: ([.classLink RX3 46 "java/lang/IllegalStateException", .initialized "java/lang/IllegalStateException", .fieldLink RX3 19 "CashAllocator" "receiptBook" "LCashAllocator$ReceiptBook;", .fieldLink RX3 85 "CashAllocator$ReceiptBook" "unapplied" "[I", .methodLink RX3 73 yX3_requireReceipt, .instanceMethod yX3_requireReceipt, .selects RX3 yX3_requireReceipt yX3_requireReceipt, .initialized RX3, .code yX3_requireReceipt cX3_requireReceipt 2 none, .classLink RX3 145 "java/lang/IndexOutOfBoundsException", .initialized "java/lang/IndexOutOfBoundsException", .fieldLink RX3 61 "CashAllocator$ReceiptBook" "count" "I", .methodLink RX3 76 yX3_requireNotBounced, .instanceMethod yX3_requireNotBounced, .selects RX3 yX3_requireNotBounced yX3_requireNotBounced, .code yX3_requireNotBounced cX3_requireNotBounced 2 none, .fieldLink RX3 161 "CashAllocator$ReceiptBook" "isBounced" "[Z", .methodLink RX3 92 yX2_payBackRest, .instanceMethod yX2_payBackRest, .selects RX2 yX2_payBackRest yX2_payBackRest, .initialized RX2, .code yX2_payBackRest cX2_payBackRest 3 (some .int), .fieldLink RX2 21 "CashAllocator$ReceiptBook" "unapplied" "[I", .fieldLink RX2 24 "CashAllocator$ReceiptBook" "paidBack" "[I"] ++ wsX30 ++ wsX20 ++ (vx_atS RX3 50 "java/lang/IllegalStateException" ["java/lang/RuntimeException", "java/lang/Exception"]).filter goodWord ++ (vx_atS RX3 149 "java/lang/IndexOutOfBoundsException" ["java/lang/RuntimeException", "java/lang/Exception"]).filter goodWord)
def wsX3_bounce_r1 : List Cond := [Cond.classLink RX3 46 "java/lang/IllegalStateException", Cond.initialized "java/lang/IllegalStateException", Cond.fieldLink RX3 19 "CashAllocator" "receiptBook" "LCashAllocator$ReceiptBook;", Cond.fieldLink RX3 96 "CashAllocator$ReceiptBook" "paidBack" "[I", Cond.fieldLink RX3 10 "CashAllocator" "billBook" "LCashAllocator$BillBook;", Cond.fieldLink RX3 43 "CashAllocator$BillBook" "count" "I", Cond.methodLink RX3 73 yX3_requireReceipt, Cond.instanceMethod yX3_requireReceipt, Cond.selects RX3 yX3_requireReceipt yX3_requireReceipt, Cond.initialized RX3, Cond.code yX3_requireReceipt cX3_requireReceipt 2 none, Cond.classLink RX3 145 "java/lang/IndexOutOfBoundsException", Cond.initialized "java/lang/IndexOutOfBoundsException", Cond.fieldLink RX3 61 "CashAllocator$ReceiptBook" "count" "I", Cond.methodLink RX3 76 yX3_requireNotBounced, Cond.instanceMethod yX3_requireNotBounced, Cond.selects RX3 yX3_requireNotBounced yX3_requireNotBounced, Cond.code yX3_requireNotBounced cX3_requireNotBounced 2 none, Cond.fieldLink RX3 161 "CashAllocator$ReceiptBook" "isBounced" "[Z", Cond.methodLink RX3 101 yX2_hasPaid, Cond.instanceMethod yX2_hasPaid, Cond.selects RX2 yX2_hasPaid yX2_hasPaid, Cond.initialized RX2, Cond.code yX2_hasPaid cX2_hasPaid 3 (some .boolean)]
def wsX3_bounce_r2 : List Cond := [Cond.fieldLink RX2 34 "CashAllocator$ReceiptBook" "hasSum" "[Z", Cond.methodLink RX2 41 yX2_cell, Cond.static yX2_cell, Cond.code yX2_cell cX2_cell 2 (some .int), Cond.methodLink RX3 105 yX2_paidOf, Cond.instanceMethod yX2_paidOf, Cond.selects RX2 yX2_paidOf yX2_paidOf, Cond.code yX2_paidOf cX2_paidOf 3 (some .int), Cond.fieldLink RX2 31 "CashAllocator$ReceiptBook" "sums" "[I", Cond.methodLink RX3 108 yX0_undo, Cond.instanceMethod yX0_undo, Cond.selects RX0 yX0_undo yX0_undo, Cond.initialized RX0, Cond.code yX0_undo cX0_undo 4 none, Cond.fieldLink RX0 27 "CashAllocator$BillBook" "paid" "[I", Cond.fieldLink RX0 33 "CashAllocator$BillBook" "takenBy" "[I", Cond.fieldLink RX0 30 "CashAllocator$BillBook" "taken" "[I", Cond.fieldLink RX0 39 "CashAllocator$BillBook" "disputedBy" "[I", Cond.methodLink RX0 57 yX0_endDispute, Cond.instanceMethod yX0_endDispute, Cond.selects RX0 yX0_endDispute yX0_endDispute, Cond.code yX0_endDispute cX0_endDispute 4 (some .int), Cond.fieldLink RX0 36 "CashAllocator$BillBook" "disputed" "[I", Cond.fieldLink RX0 42 "CashAllocator$BillBook" "writtenOff" "[I"]
def wsX3_bounce_r3 : List Cond := [Cond.methodLink RX3 111 yX2_dropPayment, Cond.instanceMethod yX2_dropPayment, Cond.selects RX2 yX2_dropPayment yX2_dropPayment, Cond.code yX2_dropPayment cX2_dropPayment 3 none, Cond.fieldLink RX2 18 "CashAllocator$ReceiptBook" "applied" "[I", Cond.methodLink RX3 114 yX2_markBounced, Cond.instanceMethod yX2_markBounced, Cond.selects RX2 yX2_markBounced yX2_markBounced, Cond.code yX2_markBounced cX2_markBounced 2 none, Cond.fieldLink RX2 21 "CashAllocator$ReceiptBook" "unapplied" "[I", Cond.fieldLink RX2 27 "CashAllocator$ReceiptBook" "isBounced" "[Z"]
def wsX3_bounce : List Cond := .code yX3_bounce cX3_bounce 4 (some .int) :: ((wsX3_bounce_r1 ++ (wsX3_bounce_r2 ++ wsX3_bounce_r3)) ++ wsX30 ++ wsX20 ++ wsX00 ++ (vx_atS RX3 50 "java/lang/IllegalStateException" ["java/lang/RuntimeException", "java/lang/Exception"]).filter goodWord ++ (vx_atS RX3 149 "java/lang/IndexOutOfBoundsException" ["java/lang/RuntimeException", "java/lang/Exception"]).filter goodWord)
def wsX3_requireBill : List Cond := .code yX3_requireBill cX3_requireBill 2 none :: ([.classLink RX3 145 "java/lang/IndexOutOfBoundsException", .initialized "java/lang/IndexOutOfBoundsException", .fieldLink RX3 10 "CashAllocator" "billBook" "LCashAllocator$BillBook;", .fieldLink RX3 43 "CashAllocator$BillBook" "count" "I"] ++ wsX30 ++ wsX00 ++ (vx_atS RX3 149 "java/lang/IndexOutOfBoundsException" ["java/lang/RuntimeException", "java/lang/Exception"]).filter goodWord)
def wsX3_settle : List Cond := .code yX3_settle cX3_settle 3 (some .int) :: ([.classLink RX3 46 "java/lang/IllegalStateException", .initialized "java/lang/IllegalStateException", .fieldLink RX3 10 "CashAllocator" "billBook" "LCashAllocator$BillBook;", .fieldLink RX3 120 "CashAllocator$BillBook" "disputed" "[I", .methodLink RX3 117 yX3_requireBill, .instanceMethod yX3_requireBill, .selects RX3 yX3_requireBill yX3_requireBill, .initialized RX3, .code yX3_requireBill cX3_requireBill 2 none, .classLink RX3 145 "java/lang/IndexOutOfBoundsException", .initialized "java/lang/IndexOutOfBoundsException", .fieldLink RX3 43 "CashAllocator$BillBook" "count" "I", .methodLink RX3 125 yX0_endDispute, .instanceMethod yX0_endDispute, .selects RX0 yX0_endDispute yX0_endDispute, .initialized RX0, .code yX0_endDispute cX0_endDispute 4 (some .int), .fieldLink RX0 36 "CashAllocator$BillBook" "disputed" "[I", .fieldLink RX0 42 "CashAllocator$BillBook" "writtenOff" "[I", .fieldLink RX0 39 "CashAllocator$BillBook" "disputedBy" "[I"] ++ wsX30 ++ wsX00 ++ (vx_atS RX3 50 "java/lang/IllegalStateException" ["java/lang/RuntimeException", "java/lang/Exception"]).filter goodWord ++ (vx_atS RX3 149 "java/lang/IndexOutOfBoundsException" ["java/lang/RuntimeException", "java/lang/Exception"]).filter goodWord)
def wsX3_advance : List Cond := .code yX3_advance cX3_advance 2 (some .int) :: ([.fieldLink RX3 30 "CashAllocator" "today" "I", .methodLink RX3 39 yX3_requireWithin, .static yX3_requireWithin, .initialized RX3, .code yX3_requireWithin cX3_requireWithin 3 none, .classLink RX3 150 "java/lang/IllegalArgumentException", .initialized "java/lang/IllegalArgumentException"] ++ wsX30 ++ (vx_atS RX3 154 "java/lang/IllegalArgumentException" ["java/lang/RuntimeException", "java/lang/Exception"]).filter goodWord)
def wsX3_bills : List Cond := .code yX3_bills cX3_bills 1 (some .int) :: ([.fieldLink RX3 10 "CashAllocator" "billBook" "LCashAllocator$BillBook;", .fieldLink RX3 43 "CashAllocator$BillBook" "count" "I"] ++ wsX30 ++ wsX00)
def wsX3_open : List Cond := .code yX3_open cX3_open 2 (some .int) :: ([.fieldLink RX3 10 "CashAllocator" "billBook" "LCashAllocator$BillBook;", .methodLink RX3 117 yX3_requireBill, .instanceMethod yX3_requireBill, .selects RX3 yX3_requireBill yX3_requireBill, .initialized RX3, .code yX3_requireBill cX3_requireBill 2 none, .classLink RX3 145 "java/lang/IndexOutOfBoundsException", .initialized "java/lang/IndexOutOfBoundsException", .fieldLink RX3 43 "CashAllocator$BillBook" "count" "I", .methodLink RX3 129 yX0_openSum, .instanceMethod yX0_openSum, .selects RX0 yX0_openSum yX0_openSum, .initialized RX0, .code yX0_openSum cX0_openSum 2 (some .int), .fieldLink RX0 15 "CashAllocator$BillBook" "amount" "[I", .fieldLink RX0 27 "CashAllocator$BillBook" "paid" "[I", .fieldLink RX0 30 "CashAllocator$BillBook" "taken" "[I", .fieldLink RX0 36 "CashAllocator$BillBook" "disputed" "[I", .fieldLink RX0 42 "CashAllocator$BillBook" "writtenOff" "[I"] ++ wsX30 ++ wsX00 ++ (vx_atS RX3 149 "java/lang/IndexOutOfBoundsException" ["java/lang/RuntimeException", "java/lang/Exception"]).filter goodWord)
def wsX3_due_r1 : List Cond := [Cond.fieldLink RX3 10 "CashAllocator" "billBook" "LCashAllocator$BillBook;", Cond.fieldLink RX3 30 "CashAllocator" "today" "I", Cond.methodLink RX3 117 yX3_requireBill, Cond.instanceMethod yX3_requireBill, Cond.selects RX3 yX3_requireBill yX3_requireBill, Cond.initialized RX3, Cond.code yX3_requireBill cX3_requireBill 2 none, Cond.classLink RX3 145 "java/lang/IndexOutOfBoundsException", Cond.initialized "java/lang/IndexOutOfBoundsException", Cond.fieldLink RX3 43 "CashAllocator$BillBook" "count" "I", Cond.methodLink RX3 132 yX0_dueOn, Cond.instanceMethod yX0_dueOn, Cond.selects RX0 yX0_dueOn yX0_dueOn, Cond.initialized RX0, Cond.code yX0_dueOn cX0_dueOn 4 (some .int), Cond.fieldLink RX0 21 "CashAllocator$BillBook" "discount" "[I", Cond.methodLink RX0 49 yX0_openSum, Cond.instanceMethod yX0_openSum, Cond.selects RX0 yX0_openSum yX0_openSum, Cond.code yX0_openSum cX0_openSum 2 (some .int), Cond.fieldLink RX0 15 "CashAllocator$BillBook" "amount" "[I", Cond.fieldLink RX0 27 "CashAllocator$BillBook" "paid" "[I", Cond.fieldLink RX0 30 "CashAllocator$BillBook" "taken" "[I", Cond.fieldLink RX0 36 "CashAllocator$BillBook" "disputed" "[I"]
def wsX3_due_r2 : List Cond := [Cond.fieldLink RX0 42 "CashAllocator$BillBook" "writtenOff" "[I", Cond.methodLink RX0 53 yX0_allowsDiscount, Cond.instanceMethod yX0_allowsDiscount, Cond.selects RX0 yX0_allowsDiscount yX0_allowsDiscount, Cond.code yX0_allowsDiscount cX0_allowsDiscount 3 (some .boolean), Cond.fieldLink RX0 24 "CashAllocator$BillBook" "lastDiscountDay" "[I"]
def wsX3_due : List Cond := .code yX3_due cX3_due 2 (some .int) :: ((wsX3_due_r1 ++ wsX3_due_r2) ++ wsX30 ++ wsX00 ++ (vx_atS RX3 149 "java/lang/IndexOutOfBoundsException" ["java/lang/RuntimeException", "java/lang/Exception"]).filter goodWord)
def wsX3_paid : List Cond := .code yX3_paid cX3_paid 2 (some .int) :: ([.fieldLink RX3 10 "CashAllocator" "billBook" "LCashAllocator$BillBook;", .fieldLink RX3 135 "CashAllocator$BillBook" "paid" "[I", .methodLink RX3 117 yX3_requireBill, .instanceMethod yX3_requireBill, .selects RX3 yX3_requireBill yX3_requireBill, .initialized RX3, .code yX3_requireBill cX3_requireBill 2 none, .classLink RX3 145 "java/lang/IndexOutOfBoundsException", .initialized "java/lang/IndexOutOfBoundsException", .fieldLink RX3 43 "CashAllocator$BillBook" "count" "I"] ++ wsX30 ++ wsX00 ++ (vx_atS RX3 149 "java/lang/IndexOutOfBoundsException" ["java/lang/RuntimeException", "java/lang/Exception"]).filter goodWord)
def wsX3_taken : List Cond := .code yX3_taken cX3_taken 2 (some .int) :: ([.fieldLink RX3 10 "CashAllocator" "billBook" "LCashAllocator$BillBook;", .fieldLink RX3 138 "CashAllocator$BillBook" "taken" "[I", .methodLink RX3 117 yX3_requireBill, .instanceMethod yX3_requireBill, .selects RX3 yX3_requireBill yX3_requireBill, .initialized RX3, .code yX3_requireBill cX3_requireBill 2 none, .classLink RX3 145 "java/lang/IndexOutOfBoundsException", .initialized "java/lang/IndexOutOfBoundsException", .fieldLink RX3 43 "CashAllocator$BillBook" "count" "I"] ++ wsX30 ++ wsX00 ++ (vx_atS RX3 149 "java/lang/IndexOutOfBoundsException" ["java/lang/RuntimeException", "java/lang/Exception"]).filter goodWord)
def wsX3_disputed : List Cond := .code yX3_disputed cX3_disputed 2 (some .int) :: ([.fieldLink RX3 10 "CashAllocator" "billBook" "LCashAllocator$BillBook;", .fieldLink RX3 120 "CashAllocator$BillBook" "disputed" "[I", .methodLink RX3 117 yX3_requireBill, .instanceMethod yX3_requireBill, .selects RX3 yX3_requireBill yX3_requireBill, .initialized RX3, .code yX3_requireBill cX3_requireBill 2 none, .classLink RX3 145 "java/lang/IndexOutOfBoundsException", .initialized "java/lang/IndexOutOfBoundsException", .fieldLink RX3 43 "CashAllocator$BillBook" "count" "I"] ++ wsX30 ++ wsX00 ++ (vx_atS RX3 149 "java/lang/IndexOutOfBoundsException" ["java/lang/RuntimeException", "java/lang/Exception"]).filter goodWord)
def wsX3_writtenOff : List Cond := .code yX3_writtenOff cX3_writtenOff 2 (some .int) :: ([.fieldLink RX3 10 "CashAllocator" "billBook" "LCashAllocator$BillBook;", .fieldLink RX3 141 "CashAllocator$BillBook" "writtenOff" "[I", .methodLink RX3 117 yX3_requireBill, .instanceMethod yX3_requireBill, .selects RX3 yX3_requireBill yX3_requireBill, .initialized RX3, .code yX3_requireBill cX3_requireBill 2 none, .classLink RX3 145 "java/lang/IndexOutOfBoundsException", .initialized "java/lang/IndexOutOfBoundsException", .fieldLink RX3 43 "CashAllocator$BillBook" "count" "I"] ++ wsX30 ++ wsX00 ++ (vx_atS RX3 149 "java/lang/IndexOutOfBoundsException" ["java/lang/RuntimeException", "java/lang/Exception"]).filter goodWord)
def wsX3_openOf : List Cond := .code yX3_openOf cX3_openOf 4 (some .int) :: ([.fieldLink RX3 10 "CashAllocator" "billBook" "LCashAllocator$BillBook;", .fieldLink RX3 43 "CashAllocator$BillBook" "count" "I", .fieldLink RX3 144 "CashAllocator$BillBook" "customer" "[I", .methodLink RX3 34 yX3_requireCustomer, .static yX3_requireCustomer, .initialized RX3, .code yX3_requireCustomer cX3_requireCustomer 1 none, .classLink RX3 145 "java/lang/IndexOutOfBoundsException", .initialized "java/lang/IndexOutOfBoundsException", .methodLink RX3 129 yX0_openSum, .instanceMethod yX0_openSum, .selects RX0 yX0_openSum yX0_openSum, .initialized RX0, .code yX0_openSum cX0_openSum 2 (some .int), .fieldLink RX0 15 "CashAllocator$BillBook" "amount" "[I", .fieldLink RX0 27 "CashAllocator$BillBook" "paid" "[I", .fieldLink RX0 30 "CashAllocator$BillBook" "taken" "[I", .fieldLink RX0 36 "CashAllocator$BillBook" "disputed" "[I", .fieldLink RX0 42 "CashAllocator$BillBook" "writtenOff" "[I"] ++ wsX30 ++ wsX00 ++ (vx_atS RX3 149 "java/lang/IndexOutOfBoundsException" ["java/lang/RuntimeException", "java/lang/Exception"]).filter goodWord)
def wsX3_setFor_r1 : List Cond := [Cond.classLink RX3 145 "java/lang/IndexOutOfBoundsException", Cond.initialized "java/lang/IndexOutOfBoundsException", Cond.classLink RX3 150 "java/lang/IllegalArgumentException", Cond.initialized "java/lang/IllegalArgumentException", Cond.fieldLink RX3 26 "CashAllocator" "exactSet" "LCashAllocator$ExactSet;", Cond.fieldLink RX3 158 "CashAllocator$ExactSet" "chosen" "[I", Cond.methodLink RX3 34 yX3_requireCustomer, Cond.static yX3_requireCustomer, Cond.initialized RX3, Cond.code yX3_requireCustomer cX3_requireCustomer 1 none, Cond.methodLink RX3 155 yX3_chooseExactSet, Cond.instanceMethod yX3_chooseExactSet, Cond.selects RX3 yX3_chooseExactSet yX3_chooseExactSet, Cond.code yX3_chooseExactSet cX3_chooseExactSet 4 none, Cond.fieldLink RX3 10 "CashAllocator" "billBook" "LCashAllocator$BillBook;", Cond.fieldLink RX3 43 "CashAllocator$BillBook" "count" "I", Cond.fieldLink RX3 30 "CashAllocator" "today" "I", Cond.methodLink RX3 206 yX1_clear, Cond.instanceMethod yX1_clear, Cond.selects RX1 yX1_clear yX1_clear, Cond.initialized RX1, Cond.code yX1_clear cX1_clear 1 none, Cond.fieldLink RX1 21 "CashAllocator$ExactSet" "count" "I", Cond.fieldLink RX1 18 "CashAllocator$ExactSet" "chosen" "[I"]
def wsX3_setFor_r2 : List Cond := [Cond.methodLink RX3 182 yX0_isOpenFor, Cond.instanceMethod yX0_isOpenFor, Cond.selects RX0 yX0_isOpenFor yX0_isOpenFor, Cond.initialized RX0, Cond.code yX0_isOpenFor cX0_isOpenFor 3 (some .boolean), Cond.fieldLink RX0 9 "CashAllocator$BillBook" "customer" "[I", Cond.methodLink RX0 49 yX0_openSum, Cond.instanceMethod yX0_openSum, Cond.selects RX0 yX0_openSum yX0_openSum, Cond.code yX0_openSum cX0_openSum 2 (some .int), Cond.fieldLink RX0 15 "CashAllocator$BillBook" "amount" "[I", Cond.fieldLink RX0 27 "CashAllocator$BillBook" "paid" "[I", Cond.fieldLink RX0 30 "CashAllocator$BillBook" "taken" "[I", Cond.fieldLink RX0 36 "CashAllocator$BillBook" "disputed" "[I", Cond.fieldLink RX0 42 "CashAllocator$BillBook" "writtenOff" "[I", Cond.methodLink RX3 132 yX0_dueOn, Cond.instanceMethod yX0_dueOn, Cond.selects RX0 yX0_dueOn yX0_dueOn, Cond.code yX0_dueOn cX0_dueOn 4 (some .int), Cond.fieldLink RX0 21 "CashAllocator$BillBook" "discount" "[I", Cond.methodLink RX0 53 yX0_allowsDiscount, Cond.instanceMethod yX0_allowsDiscount, Cond.selects RX0 yX0_allowsDiscount yX0_allowsDiscount, Cond.code yX0_allowsDiscount cX0_allowsDiscount 3 (some .boolean)]
def wsX3_setFor_r3 : List Cond := [Cond.fieldLink RX0 24 "CashAllocator$BillBook" "lastDiscountDay" "[I", Cond.methodLink RX3 209 yX1_offer, Cond.instanceMethod yX1_offer, Cond.selects RX1 yX1_offer yX1_offer, Cond.code yX1_offer cX1_offer 3 none, Cond.fieldLink RX1 9 "CashAllocator$ExactSet" "offered" "[I", Cond.fieldLink RX1 15 "CashAllocator$ExactSet" "dues" "[I", Cond.methodLink RX3 212 yX1_choose, Cond.instanceMethod yX1_choose, Cond.selects RX1 yX1_choose yX1_choose, Cond.code yX1_choose cX1_choose 2 none, Cond.methodLink RX1 25 yX1_chooseOne, Cond.instanceMethod yX1_chooseOne, Cond.selects RX1 yX1_chooseOne yX1_chooseOne, Cond.code yX1_chooseOne cX1_chooseOne 3 (some .boolean), Cond.methodLink RX1 36 yX1_find, Cond.instanceMethod yX1_find, Cond.selects RX1 yX1_find yX1_find, Cond.code yX1_find cX1_find 4 (some .int), Cond.methodLink RX1 29 yX1_chooseTwo, Cond.instanceMethod yX1_chooseTwo, Cond.selects RX1 yX1_chooseTwo yX1_chooseTwo, Cond.code yX1_chooseTwo cX1_chooseTwo 4 (some .boolean), Cond.methodLink RX1 32 yX1_chooseThree]
def wsX3_setFor_r4 : List Cond := [Cond.instanceMethod yX1_chooseThree, Cond.selects RX1 yX1_chooseThree yX1_chooseThree, Cond.code yX1_chooseThree cX1_chooseThree 5 none]
def wsX3_setFor : List Cond := .code yX3_setFor cX3_setFor 4 (some .int) :: ((wsX3_setFor_r1 ++ (wsX3_setFor_r2 ++ (wsX3_setFor_r3 ++ wsX3_setFor_r4))) ++ wsX30 ++ wsX10 ++ wsX00 ++ (vx_atS RX3 149 "java/lang/IndexOutOfBoundsException" ["java/lang/RuntimeException", "java/lang/Exception"]).filter goodWord ++ (vx_atS RX3 154 "java/lang/IllegalArgumentException" ["java/lang/RuntimeException", "java/lang/Exception"]).filter goodWord)
def wsX3_receipts : List Cond := .code yX3_receipts cX3_receipts 1 (some .int) :: ([.fieldLink RX3 19 "CashAllocator" "receiptBook" "LCashAllocator$ReceiptBook;", .fieldLink RX3 61 "CashAllocator$ReceiptBook" "count" "I"] ++ wsX30 ++ wsX20)
def wsX3_customerOf : List Cond := .code yX3_customerOf cX3_customerOf 2 (some .int) :: ([.fieldLink RX3 19 "CashAllocator" "receiptBook" "LCashAllocator$ReceiptBook;", .fieldLink RX3 79 "CashAllocator$ReceiptBook" "customer" "[I", .methodLink RX3 73 yX3_requireReceipt, .instanceMethod yX3_requireReceipt, .selects RX3 yX3_requireReceipt yX3_requireReceipt, .initialized RX3, .code yX3_requireReceipt cX3_requireReceipt 2 none, .classLink RX3 145 "java/lang/IndexOutOfBoundsException", .initialized "java/lang/IndexOutOfBoundsException", .fieldLink RX3 61 "CashAllocator$ReceiptBook" "count" "I"] ++ wsX30 ++ wsX20 ++ (vx_atS RX3 149 "java/lang/IndexOutOfBoundsException" ["java/lang/RuntimeException", "java/lang/Exception"]).filter goodWord)
def wsX3_appliedTo : List Cond := .code yX3_appliedTo cX3_appliedTo 3 (some .int) :: ([.fieldLink RX3 19 "CashAllocator" "receiptBook" "LCashAllocator$ReceiptBook;", .methodLink RX3 73 yX3_requireReceipt, .instanceMethod yX3_requireReceipt, .selects RX3 yX3_requireReceipt yX3_requireReceipt, .initialized RX3, .code yX3_requireReceipt cX3_requireReceipt 2 none, .classLink RX3 145 "java/lang/IndexOutOfBoundsException", .initialized "java/lang/IndexOutOfBoundsException", .fieldLink RX3 61 "CashAllocator$ReceiptBook" "count" "I", .methodLink RX3 117 yX3_requireBill, .instanceMethod yX3_requireBill, .selects RX3 yX3_requireBill yX3_requireBill, .code yX3_requireBill cX3_requireBill 2 none, .fieldLink RX3 10 "CashAllocator" "billBook" "LCashAllocator$BillBook;", .fieldLink RX3 43 "CashAllocator$BillBook" "count" "I", .methodLink RX3 105 yX2_paidOf, .instanceMethod yX2_paidOf, .selects RX2 yX2_paidOf yX2_paidOf, .initialized RX2, .code yX2_paidOf cX2_paidOf 3 (some .int), .fieldLink RX2 31 "CashAllocator$ReceiptBook" "sums" "[I", .methodLink RX2 41 yX2_cell, .static yX2_cell, .code yX2_cell cX2_cell 2 (some .int)] ++ wsX30 ++ wsX20 ++ wsX00 ++ (vx_atS RX3 149 "java/lang/IndexOutOfBoundsException" ["java/lang/RuntimeException", "java/lang/Exception"]).filter goodWord)
def wsX3_unapplied : List Cond := .code yX3_unapplied cX3_unapplied 2 (some .int) :: ([.fieldLink RX3 19 "CashAllocator" "receiptBook" "LCashAllocator$ReceiptBook;", .fieldLink RX3 85 "CashAllocator$ReceiptBook" "unapplied" "[I", .methodLink RX3 73 yX3_requireReceipt, .instanceMethod yX3_requireReceipt, .selects RX3 yX3_requireReceipt yX3_requireReceipt, .initialized RX3, .code yX3_requireReceipt cX3_requireReceipt 2 none, .classLink RX3 145 "java/lang/IndexOutOfBoundsException", .initialized "java/lang/IndexOutOfBoundsException", .fieldLink RX3 61 "CashAllocator$ReceiptBook" "count" "I"] ++ wsX30 ++ wsX20 ++ (vx_atS RX3 149 "java/lang/IndexOutOfBoundsException" ["java/lang/RuntimeException", "java/lang/Exception"]).filter goodWord)
def wsX3_hasBounced : List Cond := .code yX3_hasBounced cX3_hasBounced 2 (some .boolean) :: ([.fieldLink RX3 19 "CashAllocator" "receiptBook" "LCashAllocator$ReceiptBook;", .fieldLink RX3 161 "CashAllocator$ReceiptBook" "isBounced" "[Z", .methodLink RX3 73 yX3_requireReceipt, .instanceMethod yX3_requireReceipt, .selects RX3 yX3_requireReceipt yX3_requireReceipt, .initialized RX3, .code yX3_requireReceipt cX3_requireReceipt 2 none, .classLink RX3 145 "java/lang/IndexOutOfBoundsException", .initialized "java/lang/IndexOutOfBoundsException", .fieldLink RX3 61 "CashAllocator$ReceiptBook" "count" "I"] ++ wsX30 ++ wsX20 ++ (vx_atS RX3 149 "java/lang/IndexOutOfBoundsException" ["java/lang/RuntimeException", "java/lang/Exception"]).filter goodWord)
def wsX3_day : List Cond := .code yX3_day cX3_day 1 (some .int) :: ([.fieldLink RX3 30 "CashAllocator" "today" "I"] ++ wsX30)
def wsX3_received : List Cond := .code yX3_received cX3_received 1 (some .int) :: ([.fieldLink RX3 19 "CashAllocator" "receiptBook" "LCashAllocator$ReceiptBook;", .fieldLink RX3 165 "CashAllocator$ReceiptBook" "amount" "[I", .methodLink RX3 168 yX2_totalOf, .instanceMethod yX2_totalOf, .selects RX2 yX2_totalOf yX2_totalOf, .initialized RX2, .code yX2_totalOf cX2_totalOf 4 (some .int), .fieldLink RX2 37 "CashAllocator$ReceiptBook" "count" "I"] ++ wsX30 ++ wsX20)
def wsX3_applied : List Cond := .code yX3_applied cX3_applied 1 (some .int) :: ([.fieldLink RX3 19 "CashAllocator" "receiptBook" "LCashAllocator$ReceiptBook;", .fieldLink RX3 172 "CashAllocator$ReceiptBook" "applied" "[I", .methodLink RX3 168 yX2_totalOf, .instanceMethod yX2_totalOf, .selects RX2 yX2_totalOf yX2_totalOf, .initialized RX2, .code yX2_totalOf cX2_totalOf 4 (some .int), .fieldLink RX2 37 "CashAllocator$ReceiptBook" "count" "I"] ++ wsX30 ++ wsX20)
def wsX3_allUnapplied : List Cond := .code yX3_allUnapplied cX3_allUnapplied 1 (some .int) :: ([.fieldLink RX3 19 "CashAllocator" "receiptBook" "LCashAllocator$ReceiptBook;", .fieldLink RX3 85 "CashAllocator$ReceiptBook" "unapplied" "[I", .methodLink RX3 168 yX2_totalOf, .instanceMethod yX2_totalOf, .selects RX2 yX2_totalOf yX2_totalOf, .initialized RX2, .code yX2_totalOf cX2_totalOf 4 (some .int), .fieldLink RX2 37 "CashAllocator$ReceiptBook" "count" "I"] ++ wsX30 ++ wsX20)
def wsX3_paidBack : List Cond := .code yX3_paidBack cX3_paidBack 1 (some .int) :: ([.fieldLink RX3 19 "CashAllocator" "receiptBook" "LCashAllocator$ReceiptBook;", .fieldLink RX3 96 "CashAllocator$ReceiptBook" "paidBack" "[I", .methodLink RX3 168 yX2_totalOf, .instanceMethod yX2_totalOf, .selects RX2 yX2_totalOf yX2_totalOf, .initialized RX2, .code yX2_totalOf cX2_totalOf 4 (some .int), .fieldLink RX2 37 "CashAllocator$ReceiptBook" "count" "I"] ++ wsX30 ++ wsX20)
def wsX3_bounced : List Cond := .code yX3_bounced cX3_bounced 1 (some .int) :: ([.fieldLink RX3 19 "CashAllocator" "receiptBook" "LCashAllocator$ReceiptBook;", .methodLink RX3 175 yX2_bouncedTotal, .instanceMethod yX2_bouncedTotal, .selects RX2 yX2_bouncedTotal yX2_bouncedTotal, .initialized RX2, .code yX2_bouncedTotal cX2_bouncedTotal 3 (some .int), .fieldLink RX2 37 "CashAllocator$ReceiptBook" "count" "I", .fieldLink RX2 27 "CashAllocator$ReceiptBook" "isBounced" "[Z", .fieldLink RX2 15 "CashAllocator$ReceiptBook" "amount" "[I"] ++ wsX30 ++ wsX20)
def wsX4_init_r1 : List Cond := [Cond.methodLink RX4 1 objectInit, Cond.instanceMethod objectInit, Cond.code objectInit ⟨#[0xb1]⟩ 1 none, Cond.arrayClass .int, Cond.fieldLink RX4 7 "CashAllocatorModel" "owners" "[I", Cond.fieldLink RX4 13 "CashAllocatorModel" "amounts" "[I", Cond.fieldLink RX4 16 "CashAllocatorModel" "references" "[I", Cond.fieldLink RX4 19 "CashAllocatorModel" "days" "[I", Cond.fieldLink RX4 22 "CashAllocatorModel" "rates" "[I", Cond.fieldLink RX4 25 "CashAllocatorModel" "spans" "[I", Cond.fieldLink RX4 28 "CashAllocatorModel" "paidOf" "[I", Cond.fieldLink RX4 31 "CashAllocatorModel" "takenOf" "[I", Cond.fieldLink RX4 34 "CashAllocatorModel" "takers" "[I", Cond.fieldLink RX4 37 "CashAllocatorModel" "disputedOf" "[I", Cond.fieldLink RX4 40 "CashAllocatorModel" "raisers" "[I", Cond.fieldLink RX4 43 "CashAllocatorModel" "writtenOf" "[I", Cond.fieldLink RX4 46 "CashAllocatorModel" "sums" "[I", Cond.fieldLink RX4 49 "CashAllocatorModel" "payers" "[I", Cond.fieldLink RX4 52 "CashAllocatorModel" "left" "[I", Cond.fieldLink RX4 55 "CashAllocatorModel" "backs" "[I", Cond.arrayClass .boolean, Cond.fieldLink RX4 58 "CashAllocatorModel" "isBounced" "[Z", Cond.fieldLink RX4 62 "CashAllocatorModel" "paidBy" "[I", Cond.fieldLink RX4 65 "CashAllocatorModel" "hasPaid" "[Z"]
def wsX4_init_r2 : List Cond := [Cond.fieldLink RX4 68 "CashAllocatorModel" "chosen" "[I"]
def wsX4_init : List Cond := .code yX4_init cX4_init 1 none :: ((wsX4_init_r1 ++ wsX4_init_r2) ++ wsX40)
def wsX4_thrown : List Cond := .code yX4_thrown cX4_thrown 1 (some .int) :: ([.fieldLink RX4 71 "CashAllocatorModel" "refusal" "I"] ++ wsX40)
def wsX4_refused : List Cond := .code yX4_refused cX4_refused 2 (some .boolean) :: ([.fieldLink RX4 71 "CashAllocatorModel" "refusal" "I"] ++ wsX40)
def wsX4_fine : List Cond := .code yX4_fine cX4_fine 2 (some .int) :: ([.fieldLink RX4 71 "CashAllocatorModel" "refusal" "I"] ++ wsX40)
def wsX4_in : List Cond := .code yX4_in cX4_in 3 (some .boolean) :: ([])
def wsX4_isCustomer : List Cond := .code yX4_isCustomer cX4_isCustomer 1 (some .boolean) :: ([.methodLink RX4 75 yX4_in, .static yX4_in, .initialized RX4, .code yX4_in cX4_in 3 (some .boolean)])
def wsX4_isBill : List Cond := .code yX4_isBill cX4_isBill 2 (some .boolean) :: ([.fieldLink RX4 79 "CashAllocatorModel" "bills" "I", .methodLink RX4 75 yX4_in, .static yX4_in, .initialized RX4, .code yX4_in cX4_in 3 (some .boolean)] ++ wsX40)
def wsX4_isReceipt : List Cond := .code yX4_isReceipt cX4_isReceipt 2 (some .boolean) :: ([.fieldLink RX4 82 "CashAllocatorModel" "receipts" "I", .methodLink RX4 75 yX4_in, .static yX4_in, .initialized RX4, .code yX4_in cX4_in 3 (some .boolean)] ++ wsX40)
def wsX4_openNow : List Cond := .code yX4_openNow cX4_openNow 2 (some .int) :: ([.fieldLink RX4 13 "CashAllocatorModel" "amounts" "[I", .fieldLink RX4 28 "CashAllocatorModel" "paidOf" "[I", .fieldLink RX4 31 "CashAllocatorModel" "takenOf" "[I", .fieldLink RX4 37 "CashAllocatorModel" "disputedOf" "[I", .fieldLink RX4 43 "CashAllocatorModel" "writtenOf" "[I"] ++ wsX40)
def wsX4_discount : List Cond := .code yX4_discount cX4_discount 3 (some .int) :: ([.fieldLink RX4 13 "CashAllocatorModel" "amounts" "[I", .fieldLink RX4 89 "CashAllocatorModel" "day" "I", .fieldLink RX4 19 "CashAllocatorModel" "days" "[I", .fieldLink RX4 25 "CashAllocatorModel" "spans" "[I", .fieldLink RX4 22 "CashAllocatorModel" "rates" "[I", .constantLong RX4 92 (10000), .methodLink RX4 85 yX4_openNow, .instanceMethod yX4_openNow, .selects RX4 yX4_openNow yX4_openNow, .initialized RX4, .code yX4_openNow cX4_openNow 2 (some .int), .fieldLink RX4 28 "CashAllocatorModel" "paidOf" "[I", .fieldLink RX4 31 "CashAllocatorModel" "takenOf" "[I", .fieldLink RX4 37 "CashAllocatorModel" "disputedOf" "[I", .fieldLink RX4 43 "CashAllocatorModel" "writtenOf" "[I"] ++ wsX40)
def wsX4_dueNow : List Cond := .code yX4_dueNow cX4_dueNow 2 (some .int) :: ([.methodLink RX4 85 yX4_openNow, .instanceMethod yX4_openNow, .selects RX4 yX4_openNow yX4_openNow, .initialized RX4, .code yX4_openNow cX4_openNow 2 (some .int), .fieldLink RX4 13 "CashAllocatorModel" "amounts" "[I", .fieldLink RX4 28 "CashAllocatorModel" "paidOf" "[I", .fieldLink RX4 31 "CashAllocatorModel" "takenOf" "[I", .fieldLink RX4 37 "CashAllocatorModel" "disputedOf" "[I", .fieldLink RX4 43 "CashAllocatorModel" "writtenOf" "[I", .methodLink RX4 94 yX4_discount, .instanceMethod yX4_discount, .selects RX4 yX4_discount yX4_discount, .code yX4_discount cX4_discount 3 (some .int), .fieldLink RX4 89 "CashAllocatorModel" "day" "I", .fieldLink RX4 19 "CashAllocatorModel" "days" "[I", .fieldLink RX4 25 "CashAllocatorModel" "spans" "[I", .fieldLink RX4 22 "CashAllocatorModel" "rates" "[I", .constantLong RX4 92 (10000)] ++ wsX40)
def wsX4_pay_r1 : List Cond := [Cond.fieldLink RX4 52 "CashAllocatorModel" "left" "[I", Cond.fieldLink RX4 31 "CashAllocatorModel" "takenOf" "[I", Cond.fieldLink RX4 34 "CashAllocatorModel" "takers" "[I", Cond.fieldLink RX4 28 "CashAllocatorModel" "paidOf" "[I", Cond.fieldLink RX4 62 "CashAllocatorModel" "paidBy" "[I", Cond.fieldLink RX4 65 "CashAllocatorModel" "hasPaid" "[Z", Cond.methodLink RX4 97 yX4_dueNow, Cond.instanceMethod yX4_dueNow, Cond.selects RX4 yX4_dueNow yX4_dueNow, Cond.initialized RX4, Cond.code yX4_dueNow cX4_dueNow 2 (some .int), Cond.methodLink RX4 85 yX4_openNow, Cond.instanceMethod yX4_openNow, Cond.selects RX4 yX4_openNow yX4_openNow, Cond.code yX4_openNow cX4_openNow 2 (some .int), Cond.fieldLink RX4 13 "CashAllocatorModel" "amounts" "[I", Cond.fieldLink RX4 37 "CashAllocatorModel" "disputedOf" "[I", Cond.fieldLink RX4 43 "CashAllocatorModel" "writtenOf" "[I", Cond.methodLink RX4 94 yX4_discount, Cond.instanceMethod yX4_discount, Cond.selects RX4 yX4_discount yX4_discount, Cond.code yX4_discount cX4_discount 3 (some .int), Cond.fieldLink RX4 89 "CashAllocatorModel" "day" "I", Cond.fieldLink RX4 19 "CashAllocatorModel" "days" "[I"]
def wsX4_pay_r2 : List Cond := [Cond.fieldLink RX4 25 "CashAllocatorModel" "spans" "[I", Cond.fieldLink RX4 22 "CashAllocatorModel" "rates" "[I", Cond.constantLong RX4 92 (10000)]
def wsX4_pay : List Cond := .code yX4_pay cX4_pay 7 (some .boolean) :: ((wsX4_pay_r1 ++ wsX4_pay_r2) ++ wsX40)
def wsX4_dispute : List Cond := .code yX4_dispute cX4_dispute 3 none :: ([.fieldLink RX4 37 "CashAllocatorModel" "disputedOf" "[I", .fieldLink RX4 40 "CashAllocatorModel" "raisers" "[I", .methodLink RX4 85 yX4_openNow, .instanceMethod yX4_openNow, .selects RX4 yX4_openNow yX4_openNow, .initialized RX4, .code yX4_openNow cX4_openNow 2 (some .int), .fieldLink RX4 13 "CashAllocatorModel" "amounts" "[I", .fieldLink RX4 28 "CashAllocatorModel" "paidOf" "[I", .fieldLink RX4 31 "CashAllocatorModel" "takenOf" "[I", .fieldLink RX4 43 "CashAllocatorModel" "writtenOf" "[I"] ++ wsX40)
def wsX4_payNamed_r1 : List Cond := [Cond.fieldLink RX4 79 "CashAllocatorModel" "bills" "I", Cond.fieldLink RX4 49 "CashAllocatorModel" "payers" "[I", Cond.fieldLink RX4 16 "CashAllocatorModel" "references" "[I", Cond.fieldLink RX4 7 "CashAllocatorModel" "owners" "[I", Cond.fieldLink RX4 52 "CashAllocatorModel" "left" "[I", Cond.methodLink RX4 85 yX4_openNow, Cond.instanceMethod yX4_openNow, Cond.selects RX4 yX4_openNow yX4_openNow, Cond.initialized RX4, Cond.code yX4_openNow cX4_openNow 2 (some .int), Cond.fieldLink RX4 13 "CashAllocatorModel" "amounts" "[I", Cond.fieldLink RX4 28 "CashAllocatorModel" "paidOf" "[I", Cond.fieldLink RX4 31 "CashAllocatorModel" "takenOf" "[I", Cond.fieldLink RX4 37 "CashAllocatorModel" "disputedOf" "[I", Cond.fieldLink RX4 43 "CashAllocatorModel" "writtenOf" "[I", Cond.methodLink RX4 100 yX4_pay, Cond.instanceMethod yX4_pay, Cond.selects RX4 yX4_pay yX4_pay, Cond.code yX4_pay cX4_pay 7 (some .boolean), Cond.fieldLink RX4 34 "CashAllocatorModel" "takers" "[I", Cond.fieldLink RX4 62 "CashAllocatorModel" "paidBy" "[I", Cond.fieldLink RX4 65 "CashAllocatorModel" "hasPaid" "[Z", Cond.methodLink RX4 97 yX4_dueNow, Cond.instanceMethod yX4_dueNow]
def wsX4_payNamed_r2 : List Cond := [Cond.selects RX4 yX4_dueNow yX4_dueNow, Cond.code yX4_dueNow cX4_dueNow 2 (some .int), Cond.methodLink RX4 94 yX4_discount, Cond.instanceMethod yX4_discount, Cond.selects RX4 yX4_discount yX4_discount, Cond.code yX4_discount cX4_discount 3 (some .int), Cond.fieldLink RX4 89 "CashAllocatorModel" "day" "I", Cond.fieldLink RX4 19 "CashAllocatorModel" "days" "[I", Cond.fieldLink RX4 25 "CashAllocatorModel" "spans" "[I", Cond.fieldLink RX4 22 "CashAllocatorModel" "rates" "[I", Cond.constantLong RX4 92 (10000), Cond.methodLink RX4 104 yX4_dispute, Cond.instanceMethod yX4_dispute, Cond.selects RX4 yX4_dispute yX4_dispute, Cond.code yX4_dispute cX4_dispute 3 none, Cond.fieldLink RX4 40 "CashAllocatorModel" "raisers" "[I"]
def wsX4_payNamed : List Cond := .code yX4_payNamed cX4_payNamed 5 none :: ((wsX4_payNamed_r1 ++ wsX4_payNamed_r2) ++ wsX40)
def wsX4_dueOf_r1 : List Cond := [Cond.fieldLink RX4 7 "CashAllocatorModel" "owners" "[I", Cond.methodLink RX4 108 yX4_isBill, Cond.instanceMethod yX4_isBill, Cond.selects RX4 yX4_isBill yX4_isBill, Cond.initialized RX4, Cond.code yX4_isBill cX4_isBill 2 (some .boolean), Cond.fieldLink RX4 79 "CashAllocatorModel" "bills" "I", Cond.methodLink RX4 75 yX4_in, Cond.static yX4_in, Cond.code yX4_in cX4_in 3 (some .boolean), Cond.methodLink RX4 85 yX4_openNow, Cond.instanceMethod yX4_openNow, Cond.selects RX4 yX4_openNow yX4_openNow, Cond.code yX4_openNow cX4_openNow 2 (some .int), Cond.fieldLink RX4 13 "CashAllocatorModel" "amounts" "[I", Cond.fieldLink RX4 28 "CashAllocatorModel" "paidOf" "[I", Cond.fieldLink RX4 31 "CashAllocatorModel" "takenOf" "[I", Cond.fieldLink RX4 37 "CashAllocatorModel" "disputedOf" "[I", Cond.fieldLink RX4 43 "CashAllocatorModel" "writtenOf" "[I", Cond.methodLink RX4 97 yX4_dueNow, Cond.instanceMethod yX4_dueNow, Cond.selects RX4 yX4_dueNow yX4_dueNow, Cond.code yX4_dueNow cX4_dueNow 2 (some .int), Cond.methodLink RX4 94 yX4_discount]
def wsX4_dueOf_r2 : List Cond := [Cond.instanceMethod yX4_discount, Cond.selects RX4 yX4_discount yX4_discount, Cond.code yX4_discount cX4_discount 3 (some .int), Cond.fieldLink RX4 89 "CashAllocatorModel" "day" "I", Cond.fieldLink RX4 19 "CashAllocatorModel" "days" "[I", Cond.fieldLink RX4 25 "CashAllocatorModel" "spans" "[I", Cond.fieldLink RX4 22 "CashAllocatorModel" "rates" "[I", Cond.constantLong RX4 92 (10000)]
def wsX4_dueOf : List Cond := .code yX4_dueOf cX4_dueOf 3 (some .int) :: ((wsX4_dueOf_r1 ++ wsX4_dueOf_r2) ++ wsX40)
def wsX4_choose_r1 : List Cond := [Cond.fieldLink RX4 79 "CashAllocatorModel" "bills" "I", Cond.fieldLink RX4 68 "CashAllocatorModel" "chosen" "[I", Cond.methodLink RX4 112 yX4_dueOf, Cond.instanceMethod yX4_dueOf, Cond.selects RX4 yX4_dueOf yX4_dueOf, Cond.initialized RX4, Cond.code yX4_dueOf cX4_dueOf 3 (some .int), Cond.fieldLink RX4 7 "CashAllocatorModel" "owners" "[I", Cond.methodLink RX4 108 yX4_isBill, Cond.instanceMethod yX4_isBill, Cond.selects RX4 yX4_isBill yX4_isBill, Cond.code yX4_isBill cX4_isBill 2 (some .boolean), Cond.methodLink RX4 75 yX4_in, Cond.static yX4_in, Cond.code yX4_in cX4_in 3 (some .boolean), Cond.methodLink RX4 85 yX4_openNow, Cond.instanceMethod yX4_openNow, Cond.selects RX4 yX4_openNow yX4_openNow, Cond.code yX4_openNow cX4_openNow 2 (some .int), Cond.fieldLink RX4 13 "CashAllocatorModel" "amounts" "[I", Cond.fieldLink RX4 28 "CashAllocatorModel" "paidOf" "[I", Cond.fieldLink RX4 31 "CashAllocatorModel" "takenOf" "[I", Cond.fieldLink RX4 37 "CashAllocatorModel" "disputedOf" "[I", Cond.fieldLink RX4 43 "CashAllocatorModel" "writtenOf" "[I"]
def wsX4_choose_r2 : List Cond := [Cond.methodLink RX4 97 yX4_dueNow, Cond.instanceMethod yX4_dueNow, Cond.selects RX4 yX4_dueNow yX4_dueNow, Cond.code yX4_dueNow cX4_dueNow 2 (some .int), Cond.methodLink RX4 94 yX4_discount, Cond.instanceMethod yX4_discount, Cond.selects RX4 yX4_discount yX4_discount, Cond.code yX4_discount cX4_discount 3 (some .int), Cond.fieldLink RX4 89 "CashAllocatorModel" "day" "I", Cond.fieldLink RX4 19 "CashAllocatorModel" "days" "[I", Cond.fieldLink RX4 25 "CashAllocatorModel" "spans" "[I", Cond.fieldLink RX4 22 "CashAllocatorModel" "rates" "[I", Cond.constantLong RX4 92 (10000)]
def wsX4_choose : List Cond := .code yX4_choose cX4_choose 12 (some .int) :: ((wsX4_choose_r1 ++ wsX4_choose_r2) ++ wsX40)
def wsX4_payOthers_r1 : List Cond := [Cond.fieldLink RX4 49 "CashAllocatorModel" "payers" "[I", Cond.fieldLink RX4 52 "CashAllocatorModel" "left" "[I", Cond.fieldLink RX4 68 "CashAllocatorModel" "chosen" "[I", Cond.fieldLink RX4 79 "CashAllocatorModel" "bills" "I", Cond.fieldLink RX4 19 "CashAllocatorModel" "days" "[I", Cond.fieldLink RX4 7 "CashAllocatorModel" "owners" "[I", Cond.methodLink RX4 116 yX4_choose, Cond.instanceMethod yX4_choose, Cond.selects RX4 yX4_choose yX4_choose, Cond.initialized RX4, Cond.code yX4_choose cX4_choose 12 (some .int), Cond.methodLink RX4 112 yX4_dueOf, Cond.instanceMethod yX4_dueOf, Cond.selects RX4 yX4_dueOf yX4_dueOf, Cond.code yX4_dueOf cX4_dueOf 3 (some .int), Cond.methodLink RX4 108 yX4_isBill, Cond.instanceMethod yX4_isBill, Cond.selects RX4 yX4_isBill yX4_isBill, Cond.code yX4_isBill cX4_isBill 2 (some .boolean), Cond.methodLink RX4 75 yX4_in, Cond.static yX4_in, Cond.code yX4_in cX4_in 3 (some .boolean), Cond.methodLink RX4 85 yX4_openNow, Cond.instanceMethod yX4_openNow]
def wsX4_payOthers_r2 : List Cond := [Cond.selects RX4 yX4_openNow yX4_openNow, Cond.code yX4_openNow cX4_openNow 2 (some .int), Cond.fieldLink RX4 13 "CashAllocatorModel" "amounts" "[I", Cond.fieldLink RX4 28 "CashAllocatorModel" "paidOf" "[I", Cond.fieldLink RX4 31 "CashAllocatorModel" "takenOf" "[I", Cond.fieldLink RX4 37 "CashAllocatorModel" "disputedOf" "[I", Cond.fieldLink RX4 43 "CashAllocatorModel" "writtenOf" "[I", Cond.methodLink RX4 97 yX4_dueNow, Cond.instanceMethod yX4_dueNow, Cond.selects RX4 yX4_dueNow yX4_dueNow, Cond.code yX4_dueNow cX4_dueNow 2 (some .int), Cond.methodLink RX4 94 yX4_discount, Cond.instanceMethod yX4_discount, Cond.selects RX4 yX4_discount yX4_discount, Cond.code yX4_discount cX4_discount 3 (some .int), Cond.fieldLink RX4 89 "CashAllocatorModel" "day" "I", Cond.fieldLink RX4 25 "CashAllocatorModel" "spans" "[I", Cond.fieldLink RX4 22 "CashAllocatorModel" "rates" "[I", Cond.constantLong RX4 92 (10000), Cond.methodLink RX4 100 yX4_pay, Cond.instanceMethod yX4_pay, Cond.selects RX4 yX4_pay yX4_pay, Cond.code yX4_pay cX4_pay 7 (some .boolean), Cond.fieldLink RX4 34 "CashAllocatorModel" "takers" "[I"]
def wsX4_payOthers_r3 : List Cond := [Cond.fieldLink RX4 62 "CashAllocatorModel" "paidBy" "[I", Cond.fieldLink RX4 65 "CashAllocatorModel" "hasPaid" "[Z"]
def wsX4_payOthers : List Cond := .code yX4_payOthers cX4_payOthers 11 none :: ((wsX4_payOthers_r1 ++ (wsX4_payOthers_r2 ++ wsX4_payOthers_r3)) ++ wsX40)
def wsX4_bill : List Cond := .code yX4_bill cX4_bill 7 (some .int) :: ([.constant RX4 120 (1000000), .fieldLink RX4 79 "CashAllocatorModel" "bills" "I", .fieldLink RX4 7 "CashAllocatorModel" "owners" "[I", .fieldLink RX4 13 "CashAllocatorModel" "amounts" "[I", .fieldLink RX4 16 "CashAllocatorModel" "references" "[I", .fieldLink RX4 19 "CashAllocatorModel" "days" "[I", .fieldLink RX4 89 "CashAllocatorModel" "day" "I", .fieldLink RX4 22 "CashAllocatorModel" "rates" "[I", .fieldLink RX4 25 "CashAllocatorModel" "spans" "[I", .fieldLink RX4 34 "CashAllocatorModel" "takers" "[I", .fieldLink RX4 40 "CashAllocatorModel" "raisers" "[I", .methodLink RX4 75 yX4_in, .static yX4_in, .initialized RX4, .code yX4_in cX4_in 3 (some .boolean), .methodLink RX4 121 yX4_isCustomer, .static yX4_isCustomer, .code yX4_isCustomer cX4_isCustomer 1 (some .boolean), .methodLink RX4 124 yX4_refused, .instanceMethod yX4_refused, .selects RX4 yX4_refused yX4_refused, .code yX4_refused cX4_refused 2 (some .boolean), .fieldLink RX4 71 "CashAllocatorModel" "refusal" "I"] ++ wsX40)
def wsX4_receive_r1 : List Cond := [Cond.constant RX4 120 (1000000), Cond.fieldLink RX4 82 "CashAllocatorModel" "receipts" "I", Cond.fieldLink RX4 46 "CashAllocatorModel" "sums" "[I", Cond.fieldLink RX4 49 "CashAllocatorModel" "payers" "[I", Cond.fieldLink RX4 52 "CashAllocatorModel" "left" "[I", Cond.methodLink RX4 75 yX4_in, Cond.static yX4_in, Cond.initialized RX4, Cond.code yX4_in cX4_in 3 (some .boolean), Cond.methodLink RX4 121 yX4_isCustomer, Cond.static yX4_isCustomer, Cond.code yX4_isCustomer cX4_isCustomer 1 (some .boolean), Cond.methodLink RX4 124 yX4_refused, Cond.instanceMethod yX4_refused, Cond.selects RX4 yX4_refused yX4_refused, Cond.code yX4_refused cX4_refused 2 (some .boolean), Cond.fieldLink RX4 71 "CashAllocatorModel" "refusal" "I", Cond.methodLink RX4 127 yX4_payNamed, Cond.instanceMethod yX4_payNamed, Cond.selects RX4 yX4_payNamed yX4_payNamed, Cond.code yX4_payNamed cX4_payNamed 5 none, Cond.fieldLink RX4 79 "CashAllocatorModel" "bills" "I", Cond.fieldLink RX4 16 "CashAllocatorModel" "references" "[I", Cond.fieldLink RX4 7 "CashAllocatorModel" "owners" "[I"]
def wsX4_receive_r2 : List Cond := [Cond.methodLink RX4 85 yX4_openNow, Cond.instanceMethod yX4_openNow, Cond.selects RX4 yX4_openNow yX4_openNow, Cond.code yX4_openNow cX4_openNow 2 (some .int), Cond.fieldLink RX4 13 "CashAllocatorModel" "amounts" "[I", Cond.fieldLink RX4 28 "CashAllocatorModel" "paidOf" "[I", Cond.fieldLink RX4 31 "CashAllocatorModel" "takenOf" "[I", Cond.fieldLink RX4 37 "CashAllocatorModel" "disputedOf" "[I", Cond.fieldLink RX4 43 "CashAllocatorModel" "writtenOf" "[I", Cond.methodLink RX4 100 yX4_pay, Cond.instanceMethod yX4_pay, Cond.selects RX4 yX4_pay yX4_pay, Cond.code yX4_pay cX4_pay 7 (some .boolean), Cond.fieldLink RX4 34 "CashAllocatorModel" "takers" "[I", Cond.fieldLink RX4 62 "CashAllocatorModel" "paidBy" "[I", Cond.fieldLink RX4 65 "CashAllocatorModel" "hasPaid" "[Z", Cond.methodLink RX4 97 yX4_dueNow, Cond.instanceMethod yX4_dueNow, Cond.selects RX4 yX4_dueNow yX4_dueNow, Cond.code yX4_dueNow cX4_dueNow 2 (some .int), Cond.methodLink RX4 94 yX4_discount, Cond.instanceMethod yX4_discount, Cond.selects RX4 yX4_discount yX4_discount, Cond.code yX4_discount cX4_discount 3 (some .int)]
def wsX4_receive_r3 : List Cond := [Cond.fieldLink RX4 89 "CashAllocatorModel" "day" "I", Cond.fieldLink RX4 19 "CashAllocatorModel" "days" "[I", Cond.fieldLink RX4 25 "CashAllocatorModel" "spans" "[I", Cond.fieldLink RX4 22 "CashAllocatorModel" "rates" "[I", Cond.constantLong RX4 92 (10000), Cond.methodLink RX4 104 yX4_dispute, Cond.instanceMethod yX4_dispute, Cond.selects RX4 yX4_dispute yX4_dispute, Cond.code yX4_dispute cX4_dispute 3 none, Cond.fieldLink RX4 40 "CashAllocatorModel" "raisers" "[I", Cond.methodLink RX4 130 yX4_payOthers, Cond.instanceMethod yX4_payOthers, Cond.selects RX4 yX4_payOthers yX4_payOthers, Cond.code yX4_payOthers cX4_payOthers 11 none, Cond.fieldLink RX4 68 "CashAllocatorModel" "chosen" "[I", Cond.methodLink RX4 116 yX4_choose, Cond.instanceMethod yX4_choose, Cond.selects RX4 yX4_choose yX4_choose, Cond.code yX4_choose cX4_choose 12 (some .int), Cond.methodLink RX4 112 yX4_dueOf, Cond.instanceMethod yX4_dueOf, Cond.selects RX4 yX4_dueOf yX4_dueOf, Cond.code yX4_dueOf cX4_dueOf 3 (some .int), Cond.methodLink RX4 108 yX4_isBill]
def wsX4_receive_r4 : List Cond := [Cond.instanceMethod yX4_isBill, Cond.selects RX4 yX4_isBill yX4_isBill, Cond.code yX4_isBill cX4_isBill 2 (some .boolean)]
def wsX4_receive : List Cond := .code yX4_receive cX4_receive 6 (some .int) :: ((wsX4_receive_r1 ++ (wsX4_receive_r2 ++ (wsX4_receive_r3 ++ wsX4_receive_r4))) ++ wsX40)
def wsX4_assign_r1 : List Cond := [Cond.fieldLink RX4 49 "CashAllocatorModel" "payers" "[I", Cond.fieldLink RX4 58 "CashAllocatorModel" "isBounced" "[Z", Cond.fieldLink RX4 52 "CashAllocatorModel" "left" "[I", Cond.methodLink RX4 134 yX4_isReceipt, Cond.instanceMethod yX4_isReceipt, Cond.selects RX4 yX4_isReceipt yX4_isReceipt, Cond.initialized RX4, Cond.code yX4_isReceipt cX4_isReceipt 2 (some .boolean), Cond.fieldLink RX4 82 "CashAllocatorModel" "receipts" "I", Cond.methodLink RX4 75 yX4_in, Cond.static yX4_in, Cond.code yX4_in cX4_in 3 (some .boolean), Cond.methodLink RX4 121 yX4_isCustomer, Cond.static yX4_isCustomer, Cond.code yX4_isCustomer cX4_isCustomer 1 (some .boolean), Cond.methodLink RX4 124 yX4_refused, Cond.instanceMethod yX4_refused, Cond.selects RX4 yX4_refused yX4_refused, Cond.code yX4_refused cX4_refused 2 (some .boolean), Cond.fieldLink RX4 71 "CashAllocatorModel" "refusal" "I", Cond.methodLink RX4 130 yX4_payOthers, Cond.instanceMethod yX4_payOthers, Cond.selects RX4 yX4_payOthers yX4_payOthers, Cond.code yX4_payOthers cX4_payOthers 11 none]
def wsX4_assign_r2 : List Cond := [Cond.fieldLink RX4 68 "CashAllocatorModel" "chosen" "[I", Cond.fieldLink RX4 79 "CashAllocatorModel" "bills" "I", Cond.fieldLink RX4 19 "CashAllocatorModel" "days" "[I", Cond.fieldLink RX4 7 "CashAllocatorModel" "owners" "[I", Cond.methodLink RX4 116 yX4_choose, Cond.instanceMethod yX4_choose, Cond.selects RX4 yX4_choose yX4_choose, Cond.code yX4_choose cX4_choose 12 (some .int), Cond.methodLink RX4 112 yX4_dueOf, Cond.instanceMethod yX4_dueOf, Cond.selects RX4 yX4_dueOf yX4_dueOf, Cond.code yX4_dueOf cX4_dueOf 3 (some .int), Cond.methodLink RX4 108 yX4_isBill, Cond.instanceMethod yX4_isBill, Cond.selects RX4 yX4_isBill yX4_isBill, Cond.code yX4_isBill cX4_isBill 2 (some .boolean), Cond.methodLink RX4 85 yX4_openNow, Cond.instanceMethod yX4_openNow, Cond.selects RX4 yX4_openNow yX4_openNow, Cond.code yX4_openNow cX4_openNow 2 (some .int), Cond.fieldLink RX4 13 "CashAllocatorModel" "amounts" "[I", Cond.fieldLink RX4 28 "CashAllocatorModel" "paidOf" "[I", Cond.fieldLink RX4 31 "CashAllocatorModel" "takenOf" "[I", Cond.fieldLink RX4 37 "CashAllocatorModel" "disputedOf" "[I"]
def wsX4_assign_r3 : List Cond := [Cond.fieldLink RX4 43 "CashAllocatorModel" "writtenOf" "[I", Cond.methodLink RX4 97 yX4_dueNow, Cond.instanceMethod yX4_dueNow, Cond.selects RX4 yX4_dueNow yX4_dueNow, Cond.code yX4_dueNow cX4_dueNow 2 (some .int), Cond.methodLink RX4 94 yX4_discount, Cond.instanceMethod yX4_discount, Cond.selects RX4 yX4_discount yX4_discount, Cond.code yX4_discount cX4_discount 3 (some .int), Cond.fieldLink RX4 89 "CashAllocatorModel" "day" "I", Cond.fieldLink RX4 25 "CashAllocatorModel" "spans" "[I", Cond.fieldLink RX4 22 "CashAllocatorModel" "rates" "[I", Cond.constantLong RX4 92 (10000), Cond.methodLink RX4 100 yX4_pay, Cond.instanceMethod yX4_pay, Cond.selects RX4 yX4_pay yX4_pay, Cond.code yX4_pay cX4_pay 7 (some .boolean), Cond.fieldLink RX4 34 "CashAllocatorModel" "takers" "[I", Cond.fieldLink RX4 62 "CashAllocatorModel" "paidBy" "[I", Cond.fieldLink RX4 65 "CashAllocatorModel" "hasPaid" "[Z"]
def wsX4_assign : List Cond := .code yX4_assign cX4_assign 4 (some .int) :: ((wsX4_assign_r1 ++ (wsX4_assign_r2 ++ wsX4_assign_r3)) ++ wsX40)
def wsX4_apply_r1 : List Cond := [Cond.fieldLink RX4 49 "CashAllocatorModel" "payers" "[I", Cond.fieldLink RX4 58 "CashAllocatorModel" "isBounced" "[Z", Cond.fieldLink RX4 52 "CashAllocatorModel" "left" "[I", Cond.methodLink RX4 134 yX4_isReceipt, Cond.instanceMethod yX4_isReceipt, Cond.selects RX4 yX4_isReceipt yX4_isReceipt, Cond.initialized RX4, Cond.code yX4_isReceipt cX4_isReceipt 2 (some .boolean), Cond.fieldLink RX4 82 "CashAllocatorModel" "receipts" "I", Cond.methodLink RX4 75 yX4_in, Cond.static yX4_in, Cond.code yX4_in cX4_in 3 (some .boolean), Cond.methodLink RX4 124 yX4_refused, Cond.instanceMethod yX4_refused, Cond.selects RX4 yX4_refused yX4_refused, Cond.code yX4_refused cX4_refused 2 (some .boolean), Cond.fieldLink RX4 71 "CashAllocatorModel" "refusal" "I", Cond.methodLink RX4 130 yX4_payOthers, Cond.instanceMethod yX4_payOthers, Cond.selects RX4 yX4_payOthers yX4_payOthers, Cond.code yX4_payOthers cX4_payOthers 11 none, Cond.fieldLink RX4 68 "CashAllocatorModel" "chosen" "[I", Cond.fieldLink RX4 79 "CashAllocatorModel" "bills" "I", Cond.fieldLink RX4 19 "CashAllocatorModel" "days" "[I"]
def wsX4_apply_r2 : List Cond := [Cond.fieldLink RX4 7 "CashAllocatorModel" "owners" "[I", Cond.methodLink RX4 116 yX4_choose, Cond.instanceMethod yX4_choose, Cond.selects RX4 yX4_choose yX4_choose, Cond.code yX4_choose cX4_choose 12 (some .int), Cond.methodLink RX4 112 yX4_dueOf, Cond.instanceMethod yX4_dueOf, Cond.selects RX4 yX4_dueOf yX4_dueOf, Cond.code yX4_dueOf cX4_dueOf 3 (some .int), Cond.methodLink RX4 108 yX4_isBill, Cond.instanceMethod yX4_isBill, Cond.selects RX4 yX4_isBill yX4_isBill, Cond.code yX4_isBill cX4_isBill 2 (some .boolean), Cond.methodLink RX4 85 yX4_openNow, Cond.instanceMethod yX4_openNow, Cond.selects RX4 yX4_openNow yX4_openNow, Cond.code yX4_openNow cX4_openNow 2 (some .int), Cond.fieldLink RX4 13 "CashAllocatorModel" "amounts" "[I", Cond.fieldLink RX4 28 "CashAllocatorModel" "paidOf" "[I", Cond.fieldLink RX4 31 "CashAllocatorModel" "takenOf" "[I", Cond.fieldLink RX4 37 "CashAllocatorModel" "disputedOf" "[I", Cond.fieldLink RX4 43 "CashAllocatorModel" "writtenOf" "[I", Cond.methodLink RX4 97 yX4_dueNow, Cond.instanceMethod yX4_dueNow]
def wsX4_apply_r3 : List Cond := [Cond.selects RX4 yX4_dueNow yX4_dueNow, Cond.code yX4_dueNow cX4_dueNow 2 (some .int), Cond.methodLink RX4 94 yX4_discount, Cond.instanceMethod yX4_discount, Cond.selects RX4 yX4_discount yX4_discount, Cond.code yX4_discount cX4_discount 3 (some .int), Cond.fieldLink RX4 89 "CashAllocatorModel" "day" "I", Cond.fieldLink RX4 25 "CashAllocatorModel" "spans" "[I", Cond.fieldLink RX4 22 "CashAllocatorModel" "rates" "[I", Cond.constantLong RX4 92 (10000), Cond.methodLink RX4 100 yX4_pay, Cond.instanceMethod yX4_pay, Cond.selects RX4 yX4_pay yX4_pay, Cond.code yX4_pay cX4_pay 7 (some .boolean), Cond.fieldLink RX4 34 "CashAllocatorModel" "takers" "[I", Cond.fieldLink RX4 62 "CashAllocatorModel" "paidBy" "[I", Cond.fieldLink RX4 65 "CashAllocatorModel" "hasPaid" "[Z"]
def wsX4_apply : List Cond := .code yX4_apply cX4_apply 2 (some .int) :: ((wsX4_apply_r1 ++ (wsX4_apply_r2 ++ wsX4_apply_r3)) ++ wsX40)
def wsX4_payBack : List Cond := .code yX4_payBack cX4_payBack 3 (some .int) :: ([.fieldLink RX4 58 "CashAllocatorModel" "isBounced" "[Z", .fieldLink RX4 52 "CashAllocatorModel" "left" "[I", .fieldLink RX4 55 "CashAllocatorModel" "backs" "[I", .methodLink RX4 134 yX4_isReceipt, .instanceMethod yX4_isReceipt, .selects RX4 yX4_isReceipt yX4_isReceipt, .initialized RX4, .code yX4_isReceipt cX4_isReceipt 2 (some .boolean), .fieldLink RX4 82 "CashAllocatorModel" "receipts" "I", .methodLink RX4 75 yX4_in, .static yX4_in, .code yX4_in cX4_in 3 (some .boolean), .methodLink RX4 124 yX4_refused, .instanceMethod yX4_refused, .selects RX4 yX4_refused yX4_refused, .code yX4_refused cX4_refused 2 (some .boolean), .fieldLink RX4 71 "CashAllocatorModel" "refusal" "I"] ++ wsX40)
def wsX4_bounce_r1 : List Cond := [Cond.fieldLink RX4 58 "CashAllocatorModel" "isBounced" "[Z", Cond.fieldLink RX4 55 "CashAllocatorModel" "backs" "[I", Cond.fieldLink RX4 79 "CashAllocatorModel" "bills" "I", Cond.fieldLink RX4 65 "CashAllocatorModel" "hasPaid" "[Z", Cond.fieldLink RX4 28 "CashAllocatorModel" "paidOf" "[I", Cond.fieldLink RX4 62 "CashAllocatorModel" "paidBy" "[I", Cond.fieldLink RX4 34 "CashAllocatorModel" "takers" "[I", Cond.fieldLink RX4 31 "CashAllocatorModel" "takenOf" "[I", Cond.fieldLink RX4 40 "CashAllocatorModel" "raisers" "[I", Cond.fieldLink RX4 37 "CashAllocatorModel" "disputedOf" "[I", Cond.fieldLink RX4 52 "CashAllocatorModel" "left" "[I", Cond.methodLink RX4 134 yX4_isReceipt, Cond.instanceMethod yX4_isReceipt, Cond.selects RX4 yX4_isReceipt yX4_isReceipt, Cond.initialized RX4, Cond.code yX4_isReceipt cX4_isReceipt 2 (some .boolean), Cond.fieldLink RX4 82 "CashAllocatorModel" "receipts" "I", Cond.methodLink RX4 75 yX4_in, Cond.static yX4_in, Cond.code yX4_in cX4_in 3 (some .boolean), Cond.methodLink RX4 124 yX4_refused, Cond.instanceMethod yX4_refused, Cond.selects RX4 yX4_refused yX4_refused, Cond.code yX4_refused cX4_refused 2 (some .boolean)]
def wsX4_bounce_r2 : List Cond := [Cond.fieldLink RX4 71 "CashAllocatorModel" "refusal" "I"]
def wsX4_bounce : List Cond := .code yX4_bounce cX4_bounce 5 (some .int) :: ((wsX4_bounce_r1 ++ wsX4_bounce_r2) ++ wsX40)
def wsX4_settle : List Cond := .code yX4_settle cX4_settle 4 (some .int) :: ([.fieldLink RX4 37 "CashAllocatorModel" "disputedOf" "[I", .fieldLink RX4 43 "CashAllocatorModel" "writtenOf" "[I", .fieldLink RX4 40 "CashAllocatorModel" "raisers" "[I", .methodLink RX4 108 yX4_isBill, .instanceMethod yX4_isBill, .selects RX4 yX4_isBill yX4_isBill, .initialized RX4, .code yX4_isBill cX4_isBill 2 (some .boolean), .fieldLink RX4 79 "CashAllocatorModel" "bills" "I", .methodLink RX4 75 yX4_in, .static yX4_in, .code yX4_in cX4_in 3 (some .boolean), .methodLink RX4 124 yX4_refused, .instanceMethod yX4_refused, .selects RX4 yX4_refused yX4_refused, .code yX4_refused cX4_refused 2 (some .boolean), .fieldLink RX4 71 "CashAllocatorModel" "refusal" "I"] ++ wsX40)
def wsX4_advance : List Cond := .code yX4_advance cX4_advance 2 (some .int) :: ([.fieldLink RX4 89 "CashAllocatorModel" "day" "I", .methodLink RX4 75 yX4_in, .static yX4_in, .initialized RX4, .code yX4_in cX4_in 3 (some .boolean), .methodLink RX4 124 yX4_refused, .instanceMethod yX4_refused, .selects RX4 yX4_refused yX4_refused, .code yX4_refused cX4_refused 2 (some .boolean), .fieldLink RX4 71 "CashAllocatorModel" "refusal" "I"] ++ wsX40)
def wsX4_bills : List Cond := .code yX4_bills cX4_bills 1 (some .int) :: ([.fieldLink RX4 79 "CashAllocatorModel" "bills" "I", .methodLink RX4 137 yX4_fine, .instanceMethod yX4_fine, .selects RX4 yX4_fine yX4_fine, .initialized RX4, .code yX4_fine cX4_fine 2 (some .int), .fieldLink RX4 71 "CashAllocatorModel" "refusal" "I"] ++ wsX40)
def wsX4_noBill : List Cond := .code yX4_noBill cX4_noBill 2 (some .boolean) :: ([.methodLink RX4 108 yX4_isBill, .instanceMethod yX4_isBill, .selects RX4 yX4_isBill yX4_isBill, .initialized RX4, .code yX4_isBill cX4_isBill 2 (some .boolean), .fieldLink RX4 79 "CashAllocatorModel" "bills" "I", .methodLink RX4 75 yX4_in, .static yX4_in, .code yX4_in cX4_in 3 (some .boolean), .methodLink RX4 124 yX4_refused, .instanceMethod yX4_refused, .selects RX4 yX4_refused yX4_refused, .code yX4_refused cX4_refused 2 (some .boolean), .fieldLink RX4 71 "CashAllocatorModel" "refusal" "I"] ++ wsX40)
def wsX4_open_r1 : List Cond := [Cond.methodLink RX4 140 yX4_noBill, Cond.instanceMethod yX4_noBill, Cond.selects RX4 yX4_noBill yX4_noBill, Cond.initialized RX4, Cond.code yX4_noBill cX4_noBill 2 (some .boolean), Cond.methodLink RX4 108 yX4_isBill, Cond.instanceMethod yX4_isBill, Cond.selects RX4 yX4_isBill yX4_isBill, Cond.code yX4_isBill cX4_isBill 2 (some .boolean), Cond.fieldLink RX4 79 "CashAllocatorModel" "bills" "I", Cond.methodLink RX4 75 yX4_in, Cond.static yX4_in, Cond.code yX4_in cX4_in 3 (some .boolean), Cond.methodLink RX4 124 yX4_refused, Cond.instanceMethod yX4_refused, Cond.selects RX4 yX4_refused yX4_refused, Cond.code yX4_refused cX4_refused 2 (some .boolean), Cond.fieldLink RX4 71 "CashAllocatorModel" "refusal" "I", Cond.methodLink RX4 85 yX4_openNow, Cond.instanceMethod yX4_openNow, Cond.selects RX4 yX4_openNow yX4_openNow, Cond.code yX4_openNow cX4_openNow 2 (some .int), Cond.fieldLink RX4 13 "CashAllocatorModel" "amounts" "[I", Cond.fieldLink RX4 28 "CashAllocatorModel" "paidOf" "[I"]
def wsX4_open_r2 : List Cond := [Cond.fieldLink RX4 31 "CashAllocatorModel" "takenOf" "[I", Cond.fieldLink RX4 37 "CashAllocatorModel" "disputedOf" "[I", Cond.fieldLink RX4 43 "CashAllocatorModel" "writtenOf" "[I"]
def wsX4_open : List Cond := .code yX4_open cX4_open 2 (some .int) :: ((wsX4_open_r1 ++ wsX4_open_r2) ++ wsX40)
def wsX4_due_r1 : List Cond := [Cond.methodLink RX4 140 yX4_noBill, Cond.instanceMethod yX4_noBill, Cond.selects RX4 yX4_noBill yX4_noBill, Cond.initialized RX4, Cond.code yX4_noBill cX4_noBill 2 (some .boolean), Cond.methodLink RX4 108 yX4_isBill, Cond.instanceMethod yX4_isBill, Cond.selects RX4 yX4_isBill yX4_isBill, Cond.code yX4_isBill cX4_isBill 2 (some .boolean), Cond.fieldLink RX4 79 "CashAllocatorModel" "bills" "I", Cond.methodLink RX4 75 yX4_in, Cond.static yX4_in, Cond.code yX4_in cX4_in 3 (some .boolean), Cond.methodLink RX4 124 yX4_refused, Cond.instanceMethod yX4_refused, Cond.selects RX4 yX4_refused yX4_refused, Cond.code yX4_refused cX4_refused 2 (some .boolean), Cond.fieldLink RX4 71 "CashAllocatorModel" "refusal" "I", Cond.methodLink RX4 97 yX4_dueNow, Cond.instanceMethod yX4_dueNow, Cond.selects RX4 yX4_dueNow yX4_dueNow, Cond.code yX4_dueNow cX4_dueNow 2 (some .int), Cond.methodLink RX4 85 yX4_openNow, Cond.instanceMethod yX4_openNow]
def wsX4_due_r2 : List Cond := [Cond.selects RX4 yX4_openNow yX4_openNow, Cond.code yX4_openNow cX4_openNow 2 (some .int), Cond.fieldLink RX4 13 "CashAllocatorModel" "amounts" "[I", Cond.fieldLink RX4 28 "CashAllocatorModel" "paidOf" "[I", Cond.fieldLink RX4 31 "CashAllocatorModel" "takenOf" "[I", Cond.fieldLink RX4 37 "CashAllocatorModel" "disputedOf" "[I", Cond.fieldLink RX4 43 "CashAllocatorModel" "writtenOf" "[I", Cond.methodLink RX4 94 yX4_discount, Cond.instanceMethod yX4_discount, Cond.selects RX4 yX4_discount yX4_discount, Cond.code yX4_discount cX4_discount 3 (some .int), Cond.fieldLink RX4 89 "CashAllocatorModel" "day" "I", Cond.fieldLink RX4 19 "CashAllocatorModel" "days" "[I", Cond.fieldLink RX4 25 "CashAllocatorModel" "spans" "[I", Cond.fieldLink RX4 22 "CashAllocatorModel" "rates" "[I", Cond.constantLong RX4 92 (10000)]
def wsX4_due : List Cond := .code yX4_due cX4_due 2 (some .int) :: ((wsX4_due_r1 ++ wsX4_due_r2) ++ wsX40)
def wsX4_paid : List Cond := .code yX4_paid cX4_paid 2 (some .int) :: ([.fieldLink RX4 28 "CashAllocatorModel" "paidOf" "[I", .methodLink RX4 140 yX4_noBill, .instanceMethod yX4_noBill, .selects RX4 yX4_noBill yX4_noBill, .initialized RX4, .code yX4_noBill cX4_noBill 2 (some .boolean), .methodLink RX4 108 yX4_isBill, .instanceMethod yX4_isBill, .selects RX4 yX4_isBill yX4_isBill, .code yX4_isBill cX4_isBill 2 (some .boolean), .fieldLink RX4 79 "CashAllocatorModel" "bills" "I", .methodLink RX4 75 yX4_in, .static yX4_in, .code yX4_in cX4_in 3 (some .boolean), .methodLink RX4 124 yX4_refused, .instanceMethod yX4_refused, .selects RX4 yX4_refused yX4_refused, .code yX4_refused cX4_refused 2 (some .boolean), .fieldLink RX4 71 "CashAllocatorModel" "refusal" "I"] ++ wsX40)
def wsX4_taken : List Cond := .code yX4_taken cX4_taken 2 (some .int) :: ([.fieldLink RX4 31 "CashAllocatorModel" "takenOf" "[I", .methodLink RX4 140 yX4_noBill, .instanceMethod yX4_noBill, .selects RX4 yX4_noBill yX4_noBill, .initialized RX4, .code yX4_noBill cX4_noBill 2 (some .boolean), .methodLink RX4 108 yX4_isBill, .instanceMethod yX4_isBill, .selects RX4 yX4_isBill yX4_isBill, .code yX4_isBill cX4_isBill 2 (some .boolean), .fieldLink RX4 79 "CashAllocatorModel" "bills" "I", .methodLink RX4 75 yX4_in, .static yX4_in, .code yX4_in cX4_in 3 (some .boolean), .methodLink RX4 124 yX4_refused, .instanceMethod yX4_refused, .selects RX4 yX4_refused yX4_refused, .code yX4_refused cX4_refused 2 (some .boolean), .fieldLink RX4 71 "CashAllocatorModel" "refusal" "I"] ++ wsX40)
def wsX4_disputed : List Cond := .code yX4_disputed cX4_disputed 2 (some .int) :: ([.fieldLink RX4 37 "CashAllocatorModel" "disputedOf" "[I", .methodLink RX4 140 yX4_noBill, .instanceMethod yX4_noBill, .selects RX4 yX4_noBill yX4_noBill, .initialized RX4, .code yX4_noBill cX4_noBill 2 (some .boolean), .methodLink RX4 108 yX4_isBill, .instanceMethod yX4_isBill, .selects RX4 yX4_isBill yX4_isBill, .code yX4_isBill cX4_isBill 2 (some .boolean), .fieldLink RX4 79 "CashAllocatorModel" "bills" "I", .methodLink RX4 75 yX4_in, .static yX4_in, .code yX4_in cX4_in 3 (some .boolean), .methodLink RX4 124 yX4_refused, .instanceMethod yX4_refused, .selects RX4 yX4_refused yX4_refused, .code yX4_refused cX4_refused 2 (some .boolean), .fieldLink RX4 71 "CashAllocatorModel" "refusal" "I"] ++ wsX40)
def wsX4_writtenOff : List Cond := .code yX4_writtenOff cX4_writtenOff 2 (some .int) :: ([.fieldLink RX4 43 "CashAllocatorModel" "writtenOf" "[I", .methodLink RX4 140 yX4_noBill, .instanceMethod yX4_noBill, .selects RX4 yX4_noBill yX4_noBill, .initialized RX4, .code yX4_noBill cX4_noBill 2 (some .boolean), .methodLink RX4 108 yX4_isBill, .instanceMethod yX4_isBill, .selects RX4 yX4_isBill yX4_isBill, .code yX4_isBill cX4_isBill 2 (some .boolean), .fieldLink RX4 79 "CashAllocatorModel" "bills" "I", .methodLink RX4 75 yX4_in, .static yX4_in, .code yX4_in cX4_in 3 (some .boolean), .methodLink RX4 124 yX4_refused, .instanceMethod yX4_refused, .selects RX4 yX4_refused yX4_refused, .code yX4_refused cX4_refused 2 (some .boolean), .fieldLink RX4 71 "CashAllocatorModel" "refusal" "I"] ++ wsX40)
def wsX4_openOf : List Cond := .code yX4_openOf cX4_openOf 4 (some .int) :: ([.fieldLink RX4 79 "CashAllocatorModel" "bills" "I", .fieldLink RX4 7 "CashAllocatorModel" "owners" "[I", .methodLink RX4 85 yX4_openNow, .instanceMethod yX4_openNow, .selects RX4 yX4_openNow yX4_openNow, .initialized RX4, .code yX4_openNow cX4_openNow 2 (some .int), .fieldLink RX4 13 "CashAllocatorModel" "amounts" "[I", .fieldLink RX4 28 "CashAllocatorModel" "paidOf" "[I", .fieldLink RX4 31 "CashAllocatorModel" "takenOf" "[I", .fieldLink RX4 37 "CashAllocatorModel" "disputedOf" "[I", .fieldLink RX4 43 "CashAllocatorModel" "writtenOf" "[I", .methodLink RX4 121 yX4_isCustomer, .static yX4_isCustomer, .code yX4_isCustomer cX4_isCustomer 1 (some .boolean), .methodLink RX4 75 yX4_in, .static yX4_in, .code yX4_in cX4_in 3 (some .boolean), .methodLink RX4 124 yX4_refused, .instanceMethod yX4_refused, .selects RX4 yX4_refused yX4_refused, .code yX4_refused cX4_refused 2 (some .boolean), .fieldLink RX4 71 "CashAllocatorModel" "refusal" "I"] ++ wsX40)
def wsX4_setFor_r1 : List Cond := [Cond.fieldLink RX4 68 "CashAllocatorModel" "chosen" "[I", Cond.methodLink RX4 121 yX4_isCustomer, Cond.static yX4_isCustomer, Cond.initialized RX4, Cond.code yX4_isCustomer cX4_isCustomer 1 (some .boolean), Cond.methodLink RX4 75 yX4_in, Cond.static yX4_in, Cond.code yX4_in cX4_in 3 (some .boolean), Cond.methodLink RX4 124 yX4_refused, Cond.instanceMethod yX4_refused, Cond.selects RX4 yX4_refused yX4_refused, Cond.code yX4_refused cX4_refused 2 (some .boolean), Cond.fieldLink RX4 71 "CashAllocatorModel" "refusal" "I", Cond.methodLink RX4 116 yX4_choose, Cond.instanceMethod yX4_choose, Cond.selects RX4 yX4_choose yX4_choose, Cond.code yX4_choose cX4_choose 12 (some .int), Cond.fieldLink RX4 79 "CashAllocatorModel" "bills" "I", Cond.methodLink RX4 112 yX4_dueOf, Cond.instanceMethod yX4_dueOf, Cond.selects RX4 yX4_dueOf yX4_dueOf, Cond.code yX4_dueOf cX4_dueOf 3 (some .int), Cond.fieldLink RX4 7 "CashAllocatorModel" "owners" "[I", Cond.methodLink RX4 108 yX4_isBill]
def wsX4_setFor_r2 : List Cond := [Cond.instanceMethod yX4_isBill, Cond.selects RX4 yX4_isBill yX4_isBill, Cond.code yX4_isBill cX4_isBill 2 (some .boolean), Cond.methodLink RX4 85 yX4_openNow, Cond.instanceMethod yX4_openNow, Cond.selects RX4 yX4_openNow yX4_openNow, Cond.code yX4_openNow cX4_openNow 2 (some .int), Cond.fieldLink RX4 13 "CashAllocatorModel" "amounts" "[I", Cond.fieldLink RX4 28 "CashAllocatorModel" "paidOf" "[I", Cond.fieldLink RX4 31 "CashAllocatorModel" "takenOf" "[I", Cond.fieldLink RX4 37 "CashAllocatorModel" "disputedOf" "[I", Cond.fieldLink RX4 43 "CashAllocatorModel" "writtenOf" "[I", Cond.methodLink RX4 97 yX4_dueNow, Cond.instanceMethod yX4_dueNow, Cond.selects RX4 yX4_dueNow yX4_dueNow, Cond.code yX4_dueNow cX4_dueNow 2 (some .int), Cond.methodLink RX4 94 yX4_discount, Cond.instanceMethod yX4_discount, Cond.selects RX4 yX4_discount yX4_discount, Cond.code yX4_discount cX4_discount 3 (some .int), Cond.fieldLink RX4 89 "CashAllocatorModel" "day" "I", Cond.fieldLink RX4 19 "CashAllocatorModel" "days" "[I", Cond.fieldLink RX4 25 "CashAllocatorModel" "spans" "[I", Cond.fieldLink RX4 22 "CashAllocatorModel" "rates" "[I"]
def wsX4_setFor_r3 : List Cond := [Cond.constantLong RX4 92 (10000)]
def wsX4_setFor : List Cond := .code yX4_setFor cX4_setFor 5 (some .int) :: ((wsX4_setFor_r1 ++ (wsX4_setFor_r2 ++ wsX4_setFor_r3)) ++ wsX40)
def wsX4_receipts : List Cond := .code yX4_receipts cX4_receipts 1 (some .int) :: ([.fieldLink RX4 82 "CashAllocatorModel" "receipts" "I", .methodLink RX4 137 yX4_fine, .instanceMethod yX4_fine, .selects RX4 yX4_fine yX4_fine, .initialized RX4, .code yX4_fine cX4_fine 2 (some .int), .fieldLink RX4 71 "CashAllocatorModel" "refusal" "I"] ++ wsX40)
def wsX4_noReceipt : List Cond := .code yX4_noReceipt cX4_noReceipt 2 (some .boolean) :: ([.methodLink RX4 134 yX4_isReceipt, .instanceMethod yX4_isReceipt, .selects RX4 yX4_isReceipt yX4_isReceipt, .initialized RX4, .code yX4_isReceipt cX4_isReceipt 2 (some .boolean), .fieldLink RX4 82 "CashAllocatorModel" "receipts" "I", .methodLink RX4 75 yX4_in, .static yX4_in, .code yX4_in cX4_in 3 (some .boolean), .methodLink RX4 124 yX4_refused, .instanceMethod yX4_refused, .selects RX4 yX4_refused yX4_refused, .code yX4_refused cX4_refused 2 (some .boolean), .fieldLink RX4 71 "CashAllocatorModel" "refusal" "I"] ++ wsX40)
def wsX4_customerOf : List Cond := .code yX4_customerOf cX4_customerOf 2 (some .int) :: ([.fieldLink RX4 49 "CashAllocatorModel" "payers" "[I", .methodLink RX4 143 yX4_noReceipt, .instanceMethod yX4_noReceipt, .selects RX4 yX4_noReceipt yX4_noReceipt, .initialized RX4, .code yX4_noReceipt cX4_noReceipt 2 (some .boolean), .methodLink RX4 134 yX4_isReceipt, .instanceMethod yX4_isReceipt, .selects RX4 yX4_isReceipt yX4_isReceipt, .code yX4_isReceipt cX4_isReceipt 2 (some .boolean), .fieldLink RX4 82 "CashAllocatorModel" "receipts" "I", .methodLink RX4 75 yX4_in, .static yX4_in, .code yX4_in cX4_in 3 (some .boolean), .methodLink RX4 124 yX4_refused, .instanceMethod yX4_refused, .selects RX4 yX4_refused yX4_refused, .code yX4_refused cX4_refused 2 (some .boolean), .fieldLink RX4 71 "CashAllocatorModel" "refusal" "I"] ++ wsX40)
def wsX4_appliedTo : List Cond := .code yX4_appliedTo cX4_appliedTo 3 (some .int) :: ([.fieldLink RX4 62 "CashAllocatorModel" "paidBy" "[I", .methodLink RX4 134 yX4_isReceipt, .instanceMethod yX4_isReceipt, .selects RX4 yX4_isReceipt yX4_isReceipt, .initialized RX4, .code yX4_isReceipt cX4_isReceipt 2 (some .boolean), .fieldLink RX4 82 "CashAllocatorModel" "receipts" "I", .methodLink RX4 75 yX4_in, .static yX4_in, .code yX4_in cX4_in 3 (some .boolean), .methodLink RX4 108 yX4_isBill, .instanceMethod yX4_isBill, .selects RX4 yX4_isBill yX4_isBill, .code yX4_isBill cX4_isBill 2 (some .boolean), .fieldLink RX4 79 "CashAllocatorModel" "bills" "I", .methodLink RX4 124 yX4_refused, .instanceMethod yX4_refused, .selects RX4 yX4_refused yX4_refused, .code yX4_refused cX4_refused 2 (some .boolean), .fieldLink RX4 71 "CashAllocatorModel" "refusal" "I"] ++ wsX40)
def wsX4_unapplied : List Cond := .code yX4_unapplied cX4_unapplied 2 (some .int) :: ([.fieldLink RX4 52 "CashAllocatorModel" "left" "[I", .methodLink RX4 143 yX4_noReceipt, .instanceMethod yX4_noReceipt, .selects RX4 yX4_noReceipt yX4_noReceipt, .initialized RX4, .code yX4_noReceipt cX4_noReceipt 2 (some .boolean), .methodLink RX4 134 yX4_isReceipt, .instanceMethod yX4_isReceipt, .selects RX4 yX4_isReceipt yX4_isReceipt, .code yX4_isReceipt cX4_isReceipt 2 (some .boolean), .fieldLink RX4 82 "CashAllocatorModel" "receipts" "I", .methodLink RX4 75 yX4_in, .static yX4_in, .code yX4_in cX4_in 3 (some .boolean), .methodLink RX4 124 yX4_refused, .instanceMethod yX4_refused, .selects RX4 yX4_refused yX4_refused, .code yX4_refused cX4_refused 2 (some .boolean), .fieldLink RX4 71 "CashAllocatorModel" "refusal" "I"] ++ wsX40)
def wsX4_hasBounced : List Cond := .code yX4_hasBounced cX4_hasBounced 2 (some .boolean) :: ([.fieldLink RX4 58 "CashAllocatorModel" "isBounced" "[Z", .methodLink RX4 143 yX4_noReceipt, .instanceMethod yX4_noReceipt, .selects RX4 yX4_noReceipt yX4_noReceipt, .initialized RX4, .code yX4_noReceipt cX4_noReceipt 2 (some .boolean), .methodLink RX4 134 yX4_isReceipt, .instanceMethod yX4_isReceipt, .selects RX4 yX4_isReceipt yX4_isReceipt, .code yX4_isReceipt cX4_isReceipt 2 (some .boolean), .fieldLink RX4 82 "CashAllocatorModel" "receipts" "I", .methodLink RX4 75 yX4_in, .static yX4_in, .code yX4_in cX4_in 3 (some .boolean), .methodLink RX4 124 yX4_refused, .instanceMethod yX4_refused, .selects RX4 yX4_refused yX4_refused, .code yX4_refused cX4_refused 2 (some .boolean), .fieldLink RX4 71 "CashAllocatorModel" "refusal" "I"] ++ wsX40)
def wsX4_day : List Cond := .code yX4_day cX4_day 1 (some .int) :: ([.fieldLink RX4 89 "CashAllocatorModel" "day" "I", .methodLink RX4 137 yX4_fine, .instanceMethod yX4_fine, .selects RX4 yX4_fine yX4_fine, .initialized RX4, .code yX4_fine cX4_fine 2 (some .int), .fieldLink RX4 71 "CashAllocatorModel" "refusal" "I"] ++ wsX40)
def wsX4_all : List Cond := .code yX4_all cX4_all 4 (some .int) :: ([.fieldLink RX4 82 "CashAllocatorModel" "receipts" "I"] ++ wsX40)
def wsX4_allBounced : List Cond := .code yX4_allBounced cX4_allBounced 3 (some .int) :: ([.fieldLink RX4 82 "CashAllocatorModel" "receipts" "I", .fieldLink RX4 58 "CashAllocatorModel" "isBounced" "[Z", .fieldLink RX4 46 "CashAllocatorModel" "sums" "[I"] ++ wsX40)
def wsX4_received : List Cond := .code yX4_received cX4_received 1 (some .int) :: ([.fieldLink RX4 46 "CashAllocatorModel" "sums" "[I", .methodLink RX4 146 yX4_all, .instanceMethod yX4_all, .selects RX4 yX4_all yX4_all, .initialized RX4, .code yX4_all cX4_all 4 (some .int), .fieldLink RX4 82 "CashAllocatorModel" "receipts" "I", .methodLink RX4 137 yX4_fine, .instanceMethod yX4_fine, .selects RX4 yX4_fine yX4_fine, .code yX4_fine cX4_fine 2 (some .int), .fieldLink RX4 71 "CashAllocatorModel" "refusal" "I"] ++ wsX40)
def wsX4_applied : List Cond := .code yX4_applied cX4_applied 1 (some .int) :: ([.fieldLink RX4 46 "CashAllocatorModel" "sums" "[I", .fieldLink RX4 52 "CashAllocatorModel" "left" "[I", .fieldLink RX4 55 "CashAllocatorModel" "backs" "[I", .methodLink RX4 146 yX4_all, .instanceMethod yX4_all, .selects RX4 yX4_all yX4_all, .initialized RX4, .code yX4_all cX4_all 4 (some .int), .fieldLink RX4 82 "CashAllocatorModel" "receipts" "I", .methodLink RX4 150 yX4_allBounced, .instanceMethod yX4_allBounced, .selects RX4 yX4_allBounced yX4_allBounced, .code yX4_allBounced cX4_allBounced 3 (some .int), .fieldLink RX4 58 "CashAllocatorModel" "isBounced" "[Z", .methodLink RX4 137 yX4_fine, .instanceMethod yX4_fine, .selects RX4 yX4_fine yX4_fine, .code yX4_fine cX4_fine 2 (some .int), .fieldLink RX4 71 "CashAllocatorModel" "refusal" "I"] ++ wsX40)
def wsX4_allUnapplied : List Cond := .code yX4_allUnapplied cX4_allUnapplied 1 (some .int) :: ([.fieldLink RX4 52 "CashAllocatorModel" "left" "[I", .methodLink RX4 146 yX4_all, .instanceMethod yX4_all, .selects RX4 yX4_all yX4_all, .initialized RX4, .code yX4_all cX4_all 4 (some .int), .fieldLink RX4 82 "CashAllocatorModel" "receipts" "I", .methodLink RX4 137 yX4_fine, .instanceMethod yX4_fine, .selects RX4 yX4_fine yX4_fine, .code yX4_fine cX4_fine 2 (some .int), .fieldLink RX4 71 "CashAllocatorModel" "refusal" "I"] ++ wsX40)
def wsX4_paidBack : List Cond := .code yX4_paidBack cX4_paidBack 1 (some .int) :: ([.fieldLink RX4 55 "CashAllocatorModel" "backs" "[I", .methodLink RX4 146 yX4_all, .instanceMethod yX4_all, .selects RX4 yX4_all yX4_all, .initialized RX4, .code yX4_all cX4_all 4 (some .int), .fieldLink RX4 82 "CashAllocatorModel" "receipts" "I", .methodLink RX4 137 yX4_fine, .instanceMethod yX4_fine, .selects RX4 yX4_fine yX4_fine, .code yX4_fine cX4_fine 2 (some .int), .fieldLink RX4 71 "CashAllocatorModel" "refusal" "I"] ++ wsX40)
def wsX4_bounced : List Cond := .code yX4_bounced cX4_bounced 1 (some .int) :: ([.methodLink RX4 150 yX4_allBounced, .instanceMethod yX4_allBounced, .selects RX4 yX4_allBounced yX4_allBounced, .initialized RX4, .code yX4_allBounced cX4_allBounced 3 (some .int), .fieldLink RX4 82 "CashAllocatorModel" "receipts" "I", .fieldLink RX4 58 "CashAllocatorModel" "isBounced" "[Z", .fieldLink RX4 46 "CashAllocatorModel" "sums" "[I", .methodLink RX4 137 yX4_fine, .instanceMethod yX4_fine, .selects RX4 yX4_fine yX4_fine, .code yX4_fine cX4_fine 2 (some .int), .fieldLink RX4 71 "CashAllocatorModel" "refusal" "I"] ++ wsX40)
def wsL_bill_r1 : List Cond := [Cond.classLink RL 13 "java/lang/IndexOutOfBoundsException", Cond.classLink RL 15 "java/lang/IllegalArgumentException", Cond.classLink RL 17 "java/lang/IllegalStateException", Cond.methodLink RL 7 yX3_bill, Cond.instanceMethod yX3_bill, Cond.selects RX3 yX3_bill yX3_bill, Cond.initialized RX3, Cond.code yX3_bill cX3_bill 6 (some .int), Cond.classLink RX3 46 "java/lang/IllegalStateException", Cond.initialized "java/lang/IllegalStateException", Cond.constant RX3 38 (1000000), Cond.fieldLink RX3 10 "CashAllocator" "billBook" "LCashAllocator$BillBook;", Cond.fieldLink RX3 43 "CashAllocator$BillBook" "count" "I", Cond.fieldLink RX3 30 "CashAllocator" "today" "I", Cond.methodLink RX3 34 yX3_requireCustomer, Cond.static yX3_requireCustomer, Cond.code yX3_requireCustomer cX3_requireCustomer 1 none, Cond.classLink RX3 145 "java/lang/IndexOutOfBoundsException", Cond.initialized "java/lang/IndexOutOfBoundsException", Cond.methodLink RX3 39 yX3_requireWithin, Cond.static yX3_requireWithin, Cond.code yX3_requireWithin cX3_requireWithin 3 none, Cond.classLink RX3 150 "java/lang/IllegalArgumentException", Cond.initialized "java/lang/IllegalArgumentException"]
def wsL_bill_r2 : List Cond := [Cond.methodLink RX3 53 yX3_discountOf, Cond.static yX3_discountOf, Cond.code yX3_discountOf cX3_discountOf 2 (some .int), Cond.constantLong RX3 225 (10000), Cond.methodLink RX3 57 yX0_add, Cond.instanceMethod yX0_add, Cond.selects RX0 yX0_add yX0_add, Cond.initialized RX0, Cond.code yX0_add cX0_add 7 (some .int), Cond.fieldLink RX0 45 "CashAllocator$BillBook" "count" "I", Cond.fieldLink RX0 9 "CashAllocator$BillBook" "customer" "[I", Cond.fieldLink RX0 15 "CashAllocator$BillBook" "amount" "[I", Cond.fieldLink RX0 18 "CashAllocator$BillBook" "reference" "[I", Cond.fieldLink RX0 21 "CashAllocator$BillBook" "discount" "[I", Cond.fieldLink RX0 24 "CashAllocator$BillBook" "lastDiscountDay" "[I", Cond.fieldLink RX0 33 "CashAllocator$BillBook" "takenBy" "[I", Cond.fieldLink RX0 39 "CashAllocator$BillBook" "disputedBy" "[I"]
def wsL_bill : List Cond := .codeWith yL_bill cL_bill 8 (some .int) [(0, 16, 19, 13), (0, 16, 23, 15), (0, 16, 27, 17)] :: ((wsL_bill_r1 ++ wsL_bill_r2) ++ wsX30 ++ wsX00 ++ (vx_atS RX3 50 "java/lang/IllegalStateException" ["java/lang/RuntimeException", "java/lang/Exception"]).filter goodWord ++ (vx_atS RX3 149 "java/lang/IndexOutOfBoundsException" ["java/lang/RuntimeException", "java/lang/Exception"]).filter goodWord ++ (vx_atS RX3 154 "java/lang/IllegalArgumentException" ["java/lang/RuntimeException", "java/lang/Exception"]).filter goodWord)
def wsL_receive_r1 : List Cond := [Cond.classLink RL 13 "java/lang/IndexOutOfBoundsException", Cond.classLink RL 15 "java/lang/IllegalArgumentException", Cond.classLink RL 17 "java/lang/IllegalStateException", Cond.methodLink RL 19 yX3_receive, Cond.instanceMethod yX3_receive, Cond.selects RX3 yX3_receive yX3_receive, Cond.initialized RX3, Cond.code yX3_receive cX3_receive 5 (some .int), Cond.classLink RX3 46 "java/lang/IllegalStateException", Cond.initialized "java/lang/IllegalStateException", Cond.constant RX3 38 (1000000), Cond.fieldLink RX3 19 "CashAllocator" "receiptBook" "LCashAllocator$ReceiptBook;", Cond.fieldLink RX3 61 "CashAllocator$ReceiptBook" "count" "I", Cond.methodLink RX3 34 yX3_requireCustomer, Cond.static yX3_requireCustomer, Cond.code yX3_requireCustomer cX3_requireCustomer 1 none, Cond.classLink RX3 145 "java/lang/IndexOutOfBoundsException", Cond.initialized "java/lang/IndexOutOfBoundsException", Cond.methodLink RX3 39 yX3_requireWithin, Cond.static yX3_requireWithin, Cond.code yX3_requireWithin cX3_requireWithin 3 none, Cond.classLink RX3 150 "java/lang/IllegalArgumentException", Cond.initialized "java/lang/IllegalArgumentException", Cond.methodLink RX3 64 yX2_add]
def wsL_receive_r2 : List Cond := [Cond.instanceMethod yX2_add, Cond.selects RX2 yX2_add yX2_add, Cond.initialized RX2, Cond.code yX2_add cX2_add 4 (some .int), Cond.fieldLink RX2 37 "CashAllocator$ReceiptBook" "count" "I", Cond.fieldLink RX2 9 "CashAllocator$ReceiptBook" "customer" "[I", Cond.fieldLink RX2 15 "CashAllocator$ReceiptBook" "amount" "[I", Cond.fieldLink RX2 21 "CashAllocator$ReceiptBook" "unapplied" "[I", Cond.methodLink RX3 66 yX3_payNamedBills, Cond.instanceMethod yX3_payNamedBills, Cond.selects RX3 yX3_payNamedBills yX3_payNamedBills, Cond.code yX3_payNamedBills cX3_payNamedBills 6 none, Cond.fieldLink RX3 79 "CashAllocator$ReceiptBook" "customer" "[I", Cond.fieldLink RX3 10 "CashAllocator" "billBook" "LCashAllocator$BillBook;", Cond.fieldLink RX3 43 "CashAllocator$BillBook" "count" "I", Cond.fieldLink RX3 85 "CashAllocator$ReceiptBook" "unapplied" "[I", Cond.fieldLink RX3 185 "CashAllocator$BillBook" "reference" "[I", Cond.methodLink RX3 179 yX0_customerNamedBy, Cond.instanceMethod yX0_customerNamedBy, Cond.selects RX0 yX0_customerNamedBy yX0_customerNamedBy, Cond.initialized RX0, Cond.code yX0_customerNamedBy cX0_customerNamedBy 3 (some .int), Cond.fieldLink RX0 45 "CashAllocator$BillBook" "count" "I", Cond.fieldLink RX0 18 "CashAllocator$BillBook" "reference" "[I"]
def wsL_receive_r3 : List Cond := [Cond.fieldLink RX0 9 "CashAllocator$BillBook" "customer" "[I", Cond.methodLink RX0 49 yX0_openSum, Cond.instanceMethod yX0_openSum, Cond.selects RX0 yX0_openSum yX0_openSum, Cond.code yX0_openSum cX0_openSum 2 (some .int), Cond.fieldLink RX0 15 "CashAllocator$BillBook" "amount" "[I", Cond.fieldLink RX0 27 "CashAllocator$BillBook" "paid" "[I", Cond.fieldLink RX0 30 "CashAllocator$BillBook" "taken" "[I", Cond.fieldLink RX0 36 "CashAllocator$BillBook" "disputed" "[I", Cond.fieldLink RX0 42 "CashAllocator$BillBook" "writtenOff" "[I", Cond.methodLink RX3 182 yX0_isOpenFor, Cond.instanceMethod yX0_isOpenFor, Cond.selects RX0 yX0_isOpenFor yX0_isOpenFor, Cond.code yX0_isOpenFor cX0_isOpenFor 3 (some .boolean), Cond.methodLink RX3 188 yX3_payBill, Cond.instanceMethod yX3_payBill, Cond.selects RX3 yX3_payBill yX3_payBill, Cond.code yX3_payBill cX3_payBill 7 (some .boolean), Cond.fieldLink RX3 30 "CashAllocator" "today" "I", Cond.fieldLink RX3 135 "CashAllocator$BillBook" "paid" "[I", Cond.methodLink RX3 132 yX0_dueOn, Cond.instanceMethod yX0_dueOn, Cond.selects RX0 yX0_dueOn yX0_dueOn, Cond.code yX0_dueOn cX0_dueOn 4 (some .int)]
def wsL_receive_r4 : List Cond := [Cond.fieldLink RX0 21 "CashAllocator$BillBook" "discount" "[I", Cond.methodLink RX0 53 yX0_allowsDiscount, Cond.instanceMethod yX0_allowsDiscount, Cond.selects RX0 yX0_allowsDiscount yX0_allowsDiscount, Cond.code yX0_allowsDiscount cX0_allowsDiscount 3 (some .boolean), Cond.fieldLink RX0 24 "CashAllocator$BillBook" "lastDiscountDay" "[I", Cond.methodLink RX3 200 yX0_takeDiscount, Cond.instanceMethod yX0_takeDiscount, Cond.selects RX0 yX0_takeDiscount yX0_takeDiscount, Cond.code yX0_takeDiscount cX0_takeDiscount 4 none, Cond.fieldLink RX0 33 "CashAllocator$BillBook" "takenBy" "[I", Cond.methodLink RX3 203 yX2_addPayment, Cond.instanceMethod yX2_addPayment, Cond.selects RX2 yX2_addPayment yX2_addPayment, Cond.code yX2_addPayment cX2_addPayment 4 none, Cond.fieldLink RX2 31 "CashAllocator$ReceiptBook" "sums" "[I", Cond.fieldLink RX2 34 "CashAllocator$ReceiptBook" "hasSum" "[Z", Cond.fieldLink RX2 18 "CashAllocator$ReceiptBook" "applied" "[I", Cond.methodLink RX2 41 yX2_cell, Cond.static yX2_cell, Cond.code yX2_cell cX2_cell 2 (some .int), Cond.methodLink RX3 191 yX0_disputeRest, Cond.instanceMethod yX0_disputeRest, Cond.selects RX0 yX0_disputeRest yX0_disputeRest]
def wsL_receive_r5 : List Cond := [Cond.code yX0_disputeRest cX0_disputeRest 3 none, Cond.fieldLink RX0 39 "CashAllocator$BillBook" "disputedBy" "[I", Cond.methodLink RX3 70 yX3_payOtherBills, Cond.instanceMethod yX3_payOtherBills, Cond.selects RX3 yX3_payOtherBills yX3_payOtherBills, Cond.code yX3_payOtherBills cX3_payOtherBills 2 none, Cond.methodLink RX3 194 yX3_payExactSet, Cond.instanceMethod yX3_payExactSet, Cond.selects RX3 yX3_payExactSet yX3_payExactSet, Cond.code yX3_payExactSet cX3_payExactSet 4 none, Cond.fieldLink RX3 26 "CashAllocator" "exactSet" "LCashAllocator$ExactSet;", Cond.fieldLink RX3 158 "CashAllocator$ExactSet" "chosen" "[I", Cond.methodLink RX3 155 yX3_chooseExactSet, Cond.instanceMethod yX3_chooseExactSet, Cond.selects RX3 yX3_chooseExactSet yX3_chooseExactSet, Cond.code yX3_chooseExactSet cX3_chooseExactSet 4 none, Cond.methodLink RX3 206 yX1_clear, Cond.instanceMethod yX1_clear, Cond.selects RX1 yX1_clear yX1_clear, Cond.initialized RX1, Cond.code yX1_clear cX1_clear 1 none, Cond.fieldLink RX1 21 "CashAllocator$ExactSet" "count" "I", Cond.fieldLink RX1 18 "CashAllocator$ExactSet" "chosen" "[I", Cond.methodLink RX3 209 yX1_offer]
def wsL_receive_r6 : List Cond := [Cond.instanceMethod yX1_offer, Cond.selects RX1 yX1_offer yX1_offer, Cond.code yX1_offer cX1_offer 3 none, Cond.fieldLink RX1 9 "CashAllocator$ExactSet" "offered" "[I", Cond.fieldLink RX1 15 "CashAllocator$ExactSet" "dues" "[I", Cond.methodLink RX3 212 yX1_choose, Cond.instanceMethod yX1_choose, Cond.selects RX1 yX1_choose yX1_choose, Cond.code yX1_choose cX1_choose 2 none, Cond.methodLink RX1 25 yX1_chooseOne, Cond.instanceMethod yX1_chooseOne, Cond.selects RX1 yX1_chooseOne yX1_chooseOne, Cond.code yX1_chooseOne cX1_chooseOne 3 (some .boolean), Cond.methodLink RX1 36 yX1_find, Cond.instanceMethod yX1_find, Cond.selects RX1 yX1_find yX1_find, Cond.code yX1_find cX1_find 4 (some .int), Cond.methodLink RX1 29 yX1_chooseTwo, Cond.instanceMethod yX1_chooseTwo, Cond.selects RX1 yX1_chooseTwo yX1_chooseTwo, Cond.code yX1_chooseTwo cX1_chooseTwo 4 (some .boolean), Cond.methodLink RX1 32 yX1_chooseThree, Cond.instanceMethod yX1_chooseThree, Cond.selects RX1 yX1_chooseThree yX1_chooseThree]
def wsL_receive_r7 : List Cond := [Cond.code yX1_chooseThree cX1_chooseThree 5 none, Cond.methodLink RX3 197 yX3_payOldestBills, Cond.instanceMethod yX3_payOldestBills, Cond.selects RX3 yX3_payOldestBills yX3_payOldestBills, Cond.code yX3_payOldestBills cX3_payOldestBills 4 none]
def wsL_receive : List Cond := .codeWith yL_receive cL_receive 6 (some .int) [(0, 12, 15, 13), (0, 12, 19, 15), (0, 12, 23, 17)] :: ((wsL_receive_r1 ++ (wsL_receive_r2 ++ (wsL_receive_r3 ++ (wsL_receive_r4 ++ (wsL_receive_r5 ++ (wsL_receive_r6 ++ wsL_receive_r7)))))) ++ wsX30 ++ wsX20 ++ wsX00 ++ wsX10 ++ (vx_atS RX3 50 "java/lang/IllegalStateException" ["java/lang/RuntimeException", "java/lang/Exception"]).filter goodWord ++ (vx_atS RX3 149 "java/lang/IndexOutOfBoundsException" ["java/lang/RuntimeException", "java/lang/Exception"]).filter goodWord ++ (vx_atS RX3 154 "java/lang/IllegalArgumentException" ["java/lang/RuntimeException", "java/lang/Exception"]).filter goodWord)
def wsL_assign_r1 : List Cond := [Cond.classLink RL 13 "java/lang/IndexOutOfBoundsException", Cond.classLink RL 17 "java/lang/IllegalStateException", Cond.methodLink RL 23 yX3_assign, Cond.instanceMethod yX3_assign, Cond.selects RX3 yX3_assign yX3_assign, Cond.initialized RX3, Cond.code yX3_assign cX3_assign 3 (some .int), Cond.classLink RX3 46 "java/lang/IllegalStateException", Cond.initialized "java/lang/IllegalStateException", Cond.fieldLink RX3 19 "CashAllocator" "receiptBook" "LCashAllocator$ReceiptBook;", Cond.fieldLink RX3 79 "CashAllocator$ReceiptBook" "customer" "[I", Cond.fieldLink RX3 85 "CashAllocator$ReceiptBook" "unapplied" "[I", Cond.methodLink RX3 73 yX3_requireReceipt, Cond.instanceMethod yX3_requireReceipt, Cond.selects RX3 yX3_requireReceipt yX3_requireReceipt, Cond.code yX3_requireReceipt cX3_requireReceipt 2 none, Cond.classLink RX3 145 "java/lang/IndexOutOfBoundsException", Cond.initialized "java/lang/IndexOutOfBoundsException", Cond.fieldLink RX3 61 "CashAllocator$ReceiptBook" "count" "I", Cond.methodLink RX3 34 yX3_requireCustomer, Cond.static yX3_requireCustomer, Cond.code yX3_requireCustomer cX3_requireCustomer 1 none, Cond.methodLink RX3 76 yX3_requireNotBounced, Cond.instanceMethod yX3_requireNotBounced]
def wsL_assign_r2 : List Cond := [Cond.selects RX3 yX3_requireNotBounced yX3_requireNotBounced, Cond.code yX3_requireNotBounced cX3_requireNotBounced 2 none, Cond.fieldLink RX3 161 "CashAllocator$ReceiptBook" "isBounced" "[Z", Cond.methodLink RX3 70 yX3_payOtherBills, Cond.instanceMethod yX3_payOtherBills, Cond.selects RX3 yX3_payOtherBills yX3_payOtherBills, Cond.code yX3_payOtherBills cX3_payOtherBills 2 none, Cond.methodLink RX3 194 yX3_payExactSet, Cond.instanceMethod yX3_payExactSet, Cond.selects RX3 yX3_payExactSet yX3_payExactSet, Cond.code yX3_payExactSet cX3_payExactSet 4 none, Cond.fieldLink RX3 26 "CashAllocator" "exactSet" "LCashAllocator$ExactSet;", Cond.fieldLink RX3 158 "CashAllocator$ExactSet" "chosen" "[I", Cond.fieldLink RX3 10 "CashAllocator" "billBook" "LCashAllocator$BillBook;", Cond.fieldLink RX3 43 "CashAllocator$BillBook" "count" "I", Cond.methodLink RX3 155 yX3_chooseExactSet, Cond.instanceMethod yX3_chooseExactSet, Cond.selects RX3 yX3_chooseExactSet yX3_chooseExactSet, Cond.code yX3_chooseExactSet cX3_chooseExactSet 4 none, Cond.fieldLink RX3 30 "CashAllocator" "today" "I", Cond.methodLink RX3 206 yX1_clear, Cond.instanceMethod yX1_clear, Cond.selects RX1 yX1_clear yX1_clear, Cond.initialized RX1]
def wsL_assign_r3 : List Cond := [Cond.code yX1_clear cX1_clear 1 none, Cond.fieldLink RX1 21 "CashAllocator$ExactSet" "count" "I", Cond.fieldLink RX1 18 "CashAllocator$ExactSet" "chosen" "[I", Cond.methodLink RX3 182 yX0_isOpenFor, Cond.instanceMethod yX0_isOpenFor, Cond.selects RX0 yX0_isOpenFor yX0_isOpenFor, Cond.initialized RX0, Cond.code yX0_isOpenFor cX0_isOpenFor 3 (some .boolean), Cond.fieldLink RX0 9 "CashAllocator$BillBook" "customer" "[I", Cond.methodLink RX0 49 yX0_openSum, Cond.instanceMethod yX0_openSum, Cond.selects RX0 yX0_openSum yX0_openSum, Cond.code yX0_openSum cX0_openSum 2 (some .int), Cond.fieldLink RX0 15 "CashAllocator$BillBook" "amount" "[I", Cond.fieldLink RX0 27 "CashAllocator$BillBook" "paid" "[I", Cond.fieldLink RX0 30 "CashAllocator$BillBook" "taken" "[I", Cond.fieldLink RX0 36 "CashAllocator$BillBook" "disputed" "[I", Cond.fieldLink RX0 42 "CashAllocator$BillBook" "writtenOff" "[I", Cond.methodLink RX3 132 yX0_dueOn, Cond.instanceMethod yX0_dueOn, Cond.selects RX0 yX0_dueOn yX0_dueOn, Cond.code yX0_dueOn cX0_dueOn 4 (some .int), Cond.fieldLink RX0 21 "CashAllocator$BillBook" "discount" "[I", Cond.methodLink RX0 53 yX0_allowsDiscount]
def wsL_assign_r4 : List Cond := [Cond.instanceMethod yX0_allowsDiscount, Cond.selects RX0 yX0_allowsDiscount yX0_allowsDiscount, Cond.code yX0_allowsDiscount cX0_allowsDiscount 3 (some .boolean), Cond.fieldLink RX0 24 "CashAllocator$BillBook" "lastDiscountDay" "[I", Cond.methodLink RX3 209 yX1_offer, Cond.instanceMethod yX1_offer, Cond.selects RX1 yX1_offer yX1_offer, Cond.code yX1_offer cX1_offer 3 none, Cond.fieldLink RX1 9 "CashAllocator$ExactSet" "offered" "[I", Cond.fieldLink RX1 15 "CashAllocator$ExactSet" "dues" "[I", Cond.methodLink RX3 212 yX1_choose, Cond.instanceMethod yX1_choose, Cond.selects RX1 yX1_choose yX1_choose, Cond.code yX1_choose cX1_choose 2 none, Cond.methodLink RX1 25 yX1_chooseOne, Cond.instanceMethod yX1_chooseOne, Cond.selects RX1 yX1_chooseOne yX1_chooseOne, Cond.code yX1_chooseOne cX1_chooseOne 3 (some .boolean), Cond.methodLink RX1 36 yX1_find, Cond.instanceMethod yX1_find, Cond.selects RX1 yX1_find yX1_find, Cond.code yX1_find cX1_find 4 (some .int), Cond.methodLink RX1 29 yX1_chooseTwo, Cond.instanceMethod yX1_chooseTwo]
def wsL_assign_r5 : List Cond := [Cond.selects RX1 yX1_chooseTwo yX1_chooseTwo, Cond.code yX1_chooseTwo cX1_chooseTwo 4 (some .boolean), Cond.methodLink RX1 32 yX1_chooseThree, Cond.instanceMethod yX1_chooseThree, Cond.selects RX1 yX1_chooseThree yX1_chooseThree, Cond.code yX1_chooseThree cX1_chooseThree 5 none, Cond.methodLink RX3 188 yX3_payBill, Cond.instanceMethod yX3_payBill, Cond.selects RX3 yX3_payBill yX3_payBill, Cond.code yX3_payBill cX3_payBill 7 (some .boolean), Cond.fieldLink RX3 135 "CashAllocator$BillBook" "paid" "[I", Cond.methodLink RX3 200 yX0_takeDiscount, Cond.instanceMethod yX0_takeDiscount, Cond.selects RX0 yX0_takeDiscount yX0_takeDiscount, Cond.code yX0_takeDiscount cX0_takeDiscount 4 none, Cond.fieldLink RX0 33 "CashAllocator$BillBook" "takenBy" "[I", Cond.methodLink RX3 203 yX2_addPayment, Cond.instanceMethod yX2_addPayment, Cond.selects RX2 yX2_addPayment yX2_addPayment, Cond.initialized RX2, Cond.code yX2_addPayment cX2_addPayment 4 none, Cond.fieldLink RX2 31 "CashAllocator$ReceiptBook" "sums" "[I", Cond.fieldLink RX2 34 "CashAllocator$ReceiptBook" "hasSum" "[Z", Cond.fieldLink RX2 18 "CashAllocator$ReceiptBook" "applied" "[I"]
def wsL_assign_r6 : List Cond := [Cond.fieldLink RX2 21 "CashAllocator$ReceiptBook" "unapplied" "[I", Cond.methodLink RX2 41 yX2_cell, Cond.static yX2_cell, Cond.code yX2_cell cX2_cell 2 (some .int), Cond.methodLink RX3 197 yX3_payOldestBills, Cond.instanceMethod yX3_payOldestBills, Cond.selects RX3 yX3_payOldestBills yX3_payOldestBills, Cond.code yX3_payOldestBills cX3_payOldestBills 4 none]
def wsL_assign : List Cond := .codeWith yL_assign cL_assign 5 (some .int) [(0, 10, 13, 13), (0, 10, 17, 17)] :: ((wsL_assign_r1 ++ (wsL_assign_r2 ++ (wsL_assign_r3 ++ (wsL_assign_r4 ++ (wsL_assign_r5 ++ wsL_assign_r6))))) ++ wsX30 ++ wsX20 ++ wsX10 ++ wsX00 ++ (vx_atS RX3 50 "java/lang/IllegalStateException" ["java/lang/RuntimeException", "java/lang/Exception"]).filter goodWord ++ (vx_atS RX3 149 "java/lang/IndexOutOfBoundsException" ["java/lang/RuntimeException", "java/lang/Exception"]).filter goodWord)
def wsL_apply_r1 : List Cond := [Cond.classLink RL 13 "java/lang/IndexOutOfBoundsException", Cond.classLink RL 17 "java/lang/IllegalStateException", Cond.methodLink RL 27 yX3_apply, Cond.instanceMethod yX3_apply, Cond.selects RX3 yX3_apply yX3_apply, Cond.initialized RX3, Cond.code yX3_apply cX3_apply 2 (some .int), Cond.classLink RX3 46 "java/lang/IllegalStateException", Cond.initialized "java/lang/IllegalStateException", Cond.fieldLink RX3 19 "CashAllocator" "receiptBook" "LCashAllocator$ReceiptBook;", Cond.fieldLink RX3 79 "CashAllocator$ReceiptBook" "customer" "[I", Cond.fieldLink RX3 85 "CashAllocator$ReceiptBook" "unapplied" "[I", Cond.methodLink RX3 73 yX3_requireReceipt, Cond.instanceMethod yX3_requireReceipt, Cond.selects RX3 yX3_requireReceipt yX3_requireReceipt, Cond.code yX3_requireReceipt cX3_requireReceipt 2 none, Cond.classLink RX3 145 "java/lang/IndexOutOfBoundsException", Cond.initialized "java/lang/IndexOutOfBoundsException", Cond.fieldLink RX3 61 "CashAllocator$ReceiptBook" "count" "I", Cond.methodLink RX3 76 yX3_requireNotBounced, Cond.instanceMethod yX3_requireNotBounced, Cond.selects RX3 yX3_requireNotBounced yX3_requireNotBounced, Cond.code yX3_requireNotBounced cX3_requireNotBounced 2 none, Cond.fieldLink RX3 161 "CashAllocator$ReceiptBook" "isBounced" "[Z"]
def wsL_apply_r2 : List Cond := [Cond.methodLink RX3 70 yX3_payOtherBills, Cond.instanceMethod yX3_payOtherBills, Cond.selects RX3 yX3_payOtherBills yX3_payOtherBills, Cond.code yX3_payOtherBills cX3_payOtherBills 2 none, Cond.methodLink RX3 194 yX3_payExactSet, Cond.instanceMethod yX3_payExactSet, Cond.selects RX3 yX3_payExactSet yX3_payExactSet, Cond.code yX3_payExactSet cX3_payExactSet 4 none, Cond.fieldLink RX3 26 "CashAllocator" "exactSet" "LCashAllocator$ExactSet;", Cond.fieldLink RX3 158 "CashAllocator$ExactSet" "chosen" "[I", Cond.fieldLink RX3 10 "CashAllocator" "billBook" "LCashAllocator$BillBook;", Cond.fieldLink RX3 43 "CashAllocator$BillBook" "count" "I", Cond.methodLink RX3 155 yX3_chooseExactSet, Cond.instanceMethod yX3_chooseExactSet, Cond.selects RX3 yX3_chooseExactSet yX3_chooseExactSet, Cond.code yX3_chooseExactSet cX3_chooseExactSet 4 none, Cond.fieldLink RX3 30 "CashAllocator" "today" "I", Cond.methodLink RX3 206 yX1_clear, Cond.instanceMethod yX1_clear, Cond.selects RX1 yX1_clear yX1_clear, Cond.initialized RX1, Cond.code yX1_clear cX1_clear 1 none, Cond.fieldLink RX1 21 "CashAllocator$ExactSet" "count" "I", Cond.fieldLink RX1 18 "CashAllocator$ExactSet" "chosen" "[I"]
def wsL_apply_r3 : List Cond := [Cond.methodLink RX3 182 yX0_isOpenFor, Cond.instanceMethod yX0_isOpenFor, Cond.selects RX0 yX0_isOpenFor yX0_isOpenFor, Cond.initialized RX0, Cond.code yX0_isOpenFor cX0_isOpenFor 3 (some .boolean), Cond.fieldLink RX0 9 "CashAllocator$BillBook" "customer" "[I", Cond.methodLink RX0 49 yX0_openSum, Cond.instanceMethod yX0_openSum, Cond.selects RX0 yX0_openSum yX0_openSum, Cond.code yX0_openSum cX0_openSum 2 (some .int), Cond.fieldLink RX0 15 "CashAllocator$BillBook" "amount" "[I", Cond.fieldLink RX0 27 "CashAllocator$BillBook" "paid" "[I", Cond.fieldLink RX0 30 "CashAllocator$BillBook" "taken" "[I", Cond.fieldLink RX0 36 "CashAllocator$BillBook" "disputed" "[I", Cond.fieldLink RX0 42 "CashAllocator$BillBook" "writtenOff" "[I", Cond.methodLink RX3 132 yX0_dueOn, Cond.instanceMethod yX0_dueOn, Cond.selects RX0 yX0_dueOn yX0_dueOn, Cond.code yX0_dueOn cX0_dueOn 4 (some .int), Cond.fieldLink RX0 21 "CashAllocator$BillBook" "discount" "[I", Cond.methodLink RX0 53 yX0_allowsDiscount, Cond.instanceMethod yX0_allowsDiscount, Cond.selects RX0 yX0_allowsDiscount yX0_allowsDiscount, Cond.code yX0_allowsDiscount cX0_allowsDiscount 3 (some .boolean)]
def wsL_apply_r4 : List Cond := [Cond.fieldLink RX0 24 "CashAllocator$BillBook" "lastDiscountDay" "[I", Cond.methodLink RX3 209 yX1_offer, Cond.instanceMethod yX1_offer, Cond.selects RX1 yX1_offer yX1_offer, Cond.code yX1_offer cX1_offer 3 none, Cond.fieldLink RX1 9 "CashAllocator$ExactSet" "offered" "[I", Cond.fieldLink RX1 15 "CashAllocator$ExactSet" "dues" "[I", Cond.methodLink RX3 212 yX1_choose, Cond.instanceMethod yX1_choose, Cond.selects RX1 yX1_choose yX1_choose, Cond.code yX1_choose cX1_choose 2 none, Cond.methodLink RX1 25 yX1_chooseOne, Cond.instanceMethod yX1_chooseOne, Cond.selects RX1 yX1_chooseOne yX1_chooseOne, Cond.code yX1_chooseOne cX1_chooseOne 3 (some .boolean), Cond.methodLink RX1 36 yX1_find, Cond.instanceMethod yX1_find, Cond.selects RX1 yX1_find yX1_find, Cond.code yX1_find cX1_find 4 (some .int), Cond.methodLink RX1 29 yX1_chooseTwo, Cond.instanceMethod yX1_chooseTwo, Cond.selects RX1 yX1_chooseTwo yX1_chooseTwo, Cond.code yX1_chooseTwo cX1_chooseTwo 4 (some .boolean), Cond.methodLink RX1 32 yX1_chooseThree]
def wsL_apply_r5 : List Cond := [Cond.instanceMethod yX1_chooseThree, Cond.selects RX1 yX1_chooseThree yX1_chooseThree, Cond.code yX1_chooseThree cX1_chooseThree 5 none, Cond.methodLink RX3 188 yX3_payBill, Cond.instanceMethod yX3_payBill, Cond.selects RX3 yX3_payBill yX3_payBill, Cond.code yX3_payBill cX3_payBill 7 (some .boolean), Cond.fieldLink RX3 135 "CashAllocator$BillBook" "paid" "[I", Cond.methodLink RX3 200 yX0_takeDiscount, Cond.instanceMethod yX0_takeDiscount, Cond.selects RX0 yX0_takeDiscount yX0_takeDiscount, Cond.code yX0_takeDiscount cX0_takeDiscount 4 none, Cond.fieldLink RX0 33 "CashAllocator$BillBook" "takenBy" "[I", Cond.methodLink RX3 203 yX2_addPayment, Cond.instanceMethod yX2_addPayment, Cond.selects RX2 yX2_addPayment yX2_addPayment, Cond.initialized RX2, Cond.code yX2_addPayment cX2_addPayment 4 none, Cond.fieldLink RX2 31 "CashAllocator$ReceiptBook" "sums" "[I", Cond.fieldLink RX2 34 "CashAllocator$ReceiptBook" "hasSum" "[Z", Cond.fieldLink RX2 18 "CashAllocator$ReceiptBook" "applied" "[I", Cond.fieldLink RX2 21 "CashAllocator$ReceiptBook" "unapplied" "[I", Cond.methodLink RX2 41 yX2_cell, Cond.static yX2_cell]
def wsL_apply_r6 : List Cond := [Cond.code yX2_cell cX2_cell 2 (some .int), Cond.methodLink RX3 197 yX3_payOldestBills, Cond.instanceMethod yX3_payOldestBills, Cond.selects RX3 yX3_payOldestBills yX3_payOldestBills, Cond.code yX3_payOldestBills cX3_payOldestBills 4 none]
def wsL_apply : List Cond := .codeWith yL_apply cL_apply 4 (some .int) [(0, 9, 12, 13), (0, 9, 15, 17)] :: ((wsL_apply_r1 ++ (wsL_apply_r2 ++ (wsL_apply_r3 ++ (wsL_apply_r4 ++ (wsL_apply_r5 ++ wsL_apply_r6))))) ++ wsX30 ++ wsX20 ++ wsX10 ++ wsX00 ++ (vx_atS RX3 50 "java/lang/IllegalStateException" ["java/lang/RuntimeException", "java/lang/Exception"]).filter goodWord ++ (vx_atS RX3 149 "java/lang/IndexOutOfBoundsException" ["java/lang/RuntimeException", "java/lang/Exception"]).filter goodWord)
def wsL_payBack_r1 : List Cond := [Cond.classLink RL 13 "java/lang/IndexOutOfBoundsException", Cond.classLink RL 17 "java/lang/IllegalStateException", Cond.methodLink RL 31 yX3_payBack, Cond.instanceMethod yX3_payBack, Cond.selects RX3 yX3_payBack yX3_payBack, Cond.initialized RX3, Cond.code yX3_payBack cX3_payBack 2 (some .int), Cond.classLink RX3 46 "java/lang/IllegalStateException", Cond.initialized "java/lang/IllegalStateException", Cond.fieldLink RX3 19 "CashAllocator" "receiptBook" "LCashAllocator$ReceiptBook;", Cond.fieldLink RX3 85 "CashAllocator$ReceiptBook" "unapplied" "[I", Cond.methodLink RX3 73 yX3_requireReceipt, Cond.instanceMethod yX3_requireReceipt, Cond.selects RX3 yX3_requireReceipt yX3_requireReceipt, Cond.code yX3_requireReceipt cX3_requireReceipt 2 none, Cond.classLink RX3 145 "java/lang/IndexOutOfBoundsException", Cond.initialized "java/lang/IndexOutOfBoundsException", Cond.fieldLink RX3 61 "CashAllocator$ReceiptBook" "count" "I", Cond.methodLink RX3 76 yX3_requireNotBounced, Cond.instanceMethod yX3_requireNotBounced, Cond.selects RX3 yX3_requireNotBounced yX3_requireNotBounced, Cond.code yX3_requireNotBounced cX3_requireNotBounced 2 none, Cond.fieldLink RX3 161 "CashAllocator$ReceiptBook" "isBounced" "[Z", Cond.methodLink RX3 92 yX2_payBackRest]
def wsL_payBack_r2 : List Cond := [Cond.instanceMethod yX2_payBackRest, Cond.selects RX2 yX2_payBackRest yX2_payBackRest, Cond.initialized RX2, Cond.code yX2_payBackRest cX2_payBackRest 3 (some .int), Cond.fieldLink RX2 21 "CashAllocator$ReceiptBook" "unapplied" "[I", Cond.fieldLink RX2 24 "CashAllocator$ReceiptBook" "paidBack" "[I"]
def wsL_payBack : List Cond := .codeWith yL_payBack cL_payBack 4 (some .int) [(0, 9, 12, 13), (0, 9, 15, 17)] :: ((wsL_payBack_r1 ++ wsL_payBack_r2) ++ wsX30 ++ wsX20 ++ (vx_atS RX3 50 "java/lang/IllegalStateException" ["java/lang/RuntimeException", "java/lang/Exception"]).filter goodWord ++ (vx_atS RX3 149 "java/lang/IndexOutOfBoundsException" ["java/lang/RuntimeException", "java/lang/Exception"]).filter goodWord)
def wsL_bounce_r1 : List Cond := [Cond.classLink RL 13 "java/lang/IndexOutOfBoundsException", Cond.classLink RL 17 "java/lang/IllegalStateException", Cond.methodLink RL 34 yX3_bounce, Cond.instanceMethod yX3_bounce, Cond.selects RX3 yX3_bounce yX3_bounce, Cond.initialized RX3, Cond.code yX3_bounce cX3_bounce 4 (some .int), Cond.classLink RX3 46 "java/lang/IllegalStateException", Cond.initialized "java/lang/IllegalStateException", Cond.fieldLink RX3 19 "CashAllocator" "receiptBook" "LCashAllocator$ReceiptBook;", Cond.fieldLink RX3 96 "CashAllocator$ReceiptBook" "paidBack" "[I", Cond.fieldLink RX3 10 "CashAllocator" "billBook" "LCashAllocator$BillBook;", Cond.fieldLink RX3 43 "CashAllocator$BillBook" "count" "I", Cond.methodLink RX3 73 yX3_requireReceipt, Cond.instanceMethod yX3_requireReceipt, Cond.selects RX3 yX3_requireReceipt yX3_requireReceipt, Cond.code yX3_requireReceipt cX3_requireReceipt 2 none, Cond.classLink RX3 145 "java/lang/IndexOutOfBoundsException", Cond.initialized "java/lang/IndexOutOfBoundsException", Cond.fieldLink RX3 61 "CashAllocator$ReceiptBook" "count" "I", Cond.methodLink RX3 76 yX3_requireNotBounced, Cond.instanceMethod yX3_requireNotBounced, Cond.selects RX3 yX3_requireNotBounced yX3_requireNotBounced, Cond.code yX3_requireNotBounced cX3_requireNotBounced 2 none]
def wsL_bounce_r2 : List Cond := [Cond.fieldLink RX3 161 "CashAllocator$ReceiptBook" "isBounced" "[Z", Cond.methodLink RX3 101 yX2_hasPaid, Cond.instanceMethod yX2_hasPaid, Cond.selects RX2 yX2_hasPaid yX2_hasPaid, Cond.initialized RX2, Cond.code yX2_hasPaid cX2_hasPaid 3 (some .boolean), Cond.fieldLink RX2 34 "CashAllocator$ReceiptBook" "hasSum" "[Z", Cond.methodLink RX2 41 yX2_cell, Cond.static yX2_cell, Cond.code yX2_cell cX2_cell 2 (some .int), Cond.methodLink RX3 105 yX2_paidOf, Cond.instanceMethod yX2_paidOf, Cond.selects RX2 yX2_paidOf yX2_paidOf, Cond.code yX2_paidOf cX2_paidOf 3 (some .int), Cond.fieldLink RX2 31 "CashAllocator$ReceiptBook" "sums" "[I", Cond.methodLink RX3 108 yX0_undo, Cond.instanceMethod yX0_undo, Cond.selects RX0 yX0_undo yX0_undo, Cond.initialized RX0, Cond.code yX0_undo cX0_undo 4 none, Cond.fieldLink RX0 27 "CashAllocator$BillBook" "paid" "[I", Cond.fieldLink RX0 33 "CashAllocator$BillBook" "takenBy" "[I", Cond.fieldLink RX0 30 "CashAllocator$BillBook" "taken" "[I", Cond.fieldLink RX0 39 "CashAllocator$BillBook" "disputedBy" "[I"]
def wsL_bounce_r3 : List Cond := [Cond.methodLink RX0 57 yX0_endDispute, Cond.instanceMethod yX0_endDispute, Cond.selects RX0 yX0_endDispute yX0_endDispute, Cond.code yX0_endDispute cX0_endDispute 4 (some .int), Cond.fieldLink RX0 36 "CashAllocator$BillBook" "disputed" "[I", Cond.fieldLink RX0 42 "CashAllocator$BillBook" "writtenOff" "[I", Cond.methodLink RX3 111 yX2_dropPayment, Cond.instanceMethod yX2_dropPayment, Cond.selects RX2 yX2_dropPayment yX2_dropPayment, Cond.code yX2_dropPayment cX2_dropPayment 3 none, Cond.fieldLink RX2 18 "CashAllocator$ReceiptBook" "applied" "[I", Cond.methodLink RX3 114 yX2_markBounced, Cond.instanceMethod yX2_markBounced, Cond.selects RX2 yX2_markBounced yX2_markBounced, Cond.code yX2_markBounced cX2_markBounced 2 none, Cond.fieldLink RX2 21 "CashAllocator$ReceiptBook" "unapplied" "[I", Cond.fieldLink RX2 27 "CashAllocator$ReceiptBook" "isBounced" "[Z"]
def wsL_bounce : List Cond := .codeWith yL_bounce cL_bounce 4 (some .int) [(0, 9, 12, 13), (0, 9, 15, 17)] :: ((wsL_bounce_r1 ++ (wsL_bounce_r2 ++ wsL_bounce_r3)) ++ wsX30 ++ wsX20 ++ wsX00 ++ (vx_atS RX3 50 "java/lang/IllegalStateException" ["java/lang/RuntimeException", "java/lang/Exception"]).filter goodWord ++ (vx_atS RX3 149 "java/lang/IndexOutOfBoundsException" ["java/lang/RuntimeException", "java/lang/Exception"]).filter goodWord)
def wsL_settle_r1 : List Cond := [Cond.classLink RL 13 "java/lang/IndexOutOfBoundsException", Cond.classLink RL 17 "java/lang/IllegalStateException", Cond.methodLink RL 37 yX3_settle, Cond.instanceMethod yX3_settle, Cond.selects RX3 yX3_settle yX3_settle, Cond.initialized RX3, Cond.code yX3_settle cX3_settle 3 (some .int), Cond.classLink RX3 46 "java/lang/IllegalStateException", Cond.initialized "java/lang/IllegalStateException", Cond.fieldLink RX3 10 "CashAllocator" "billBook" "LCashAllocator$BillBook;", Cond.fieldLink RX3 120 "CashAllocator$BillBook" "disputed" "[I", Cond.methodLink RX3 117 yX3_requireBill, Cond.instanceMethod yX3_requireBill, Cond.selects RX3 yX3_requireBill yX3_requireBill, Cond.code yX3_requireBill cX3_requireBill 2 none, Cond.classLink RX3 145 "java/lang/IndexOutOfBoundsException", Cond.initialized "java/lang/IndexOutOfBoundsException", Cond.fieldLink RX3 43 "CashAllocator$BillBook" "count" "I", Cond.methodLink RX3 125 yX0_endDispute, Cond.instanceMethod yX0_endDispute, Cond.selects RX0 yX0_endDispute yX0_endDispute, Cond.initialized RX0, Cond.code yX0_endDispute cX0_endDispute 4 (some .int), Cond.fieldLink RX0 36 "CashAllocator$BillBook" "disputed" "[I"]
def wsL_settle_r2 : List Cond := [Cond.fieldLink RX0 42 "CashAllocator$BillBook" "writtenOff" "[I", Cond.fieldLink RX0 39 "CashAllocator$BillBook" "disputedBy" "[I"]
def wsL_settle : List Cond := .codeWith yL_settle cL_settle 5 (some .int) [(0, 10, 13, 13), (0, 10, 17, 17)] :: ((wsL_settle_r1 ++ wsL_settle_r2) ++ wsX30 ++ wsX00 ++ (vx_atS RX3 50 "java/lang/IllegalStateException" ["java/lang/RuntimeException", "java/lang/Exception"]).filter goodWord ++ (vx_atS RX3 149 "java/lang/IndexOutOfBoundsException" ["java/lang/RuntimeException", "java/lang/Exception"]).filter goodWord)
def wsL_advance : List Cond := .codeWith yL_advance cL_advance 4 (some .int) [(0, 9, 12, 15)] :: ([.classLink RL 15 "java/lang/IllegalArgumentException", .methodLink RL 41 yX3_advance, .instanceMethod yX3_advance, .selects RX3 yX3_advance yX3_advance, .initialized RX3, .code yX3_advance cX3_advance 2 (some .int), .fieldLink RX3 30 "CashAllocator" "today" "I", .methodLink RX3 39 yX3_requireWithin, .static yX3_requireWithin, .code yX3_requireWithin cX3_requireWithin 3 none, .classLink RX3 150 "java/lang/IllegalArgumentException", .initialized "java/lang/IllegalArgumentException"] ++ wsX30 ++ (vx_atS RX3 154 "java/lang/IllegalArgumentException" ["java/lang/RuntimeException", "java/lang/Exception"]).filter goodWord)
def wsL_open : List Cond := .codeWith yL_open cL_open 4 (some .int) [(0, 9, 12, 13)] :: ([.classLink RL 13 "java/lang/IndexOutOfBoundsException", .methodLink RL 44 yX3_open, .instanceMethod yX3_open, .selects RX3 yX3_open yX3_open, .initialized RX3, .code yX3_open cX3_open 2 (some .int), .fieldLink RX3 10 "CashAllocator" "billBook" "LCashAllocator$BillBook;", .methodLink RX3 117 yX3_requireBill, .instanceMethod yX3_requireBill, .selects RX3 yX3_requireBill yX3_requireBill, .code yX3_requireBill cX3_requireBill 2 none, .classLink RX3 145 "java/lang/IndexOutOfBoundsException", .initialized "java/lang/IndexOutOfBoundsException", .fieldLink RX3 43 "CashAllocator$BillBook" "count" "I", .methodLink RX3 129 yX0_openSum, .instanceMethod yX0_openSum, .selects RX0 yX0_openSum yX0_openSum, .initialized RX0, .code yX0_openSum cX0_openSum 2 (some .int), .fieldLink RX0 15 "CashAllocator$BillBook" "amount" "[I", .fieldLink RX0 27 "CashAllocator$BillBook" "paid" "[I", .fieldLink RX0 30 "CashAllocator$BillBook" "taken" "[I", .fieldLink RX0 36 "CashAllocator$BillBook" "disputed" "[I", .fieldLink RX0 42 "CashAllocator$BillBook" "writtenOff" "[I"] ++ wsX30 ++ wsX00 ++ (vx_atS RX3 149 "java/lang/IndexOutOfBoundsException" ["java/lang/RuntimeException", "java/lang/Exception"]).filter goodWord)
def wsL_due_r1 : List Cond := [Cond.classLink RL 13 "java/lang/IndexOutOfBoundsException", Cond.methodLink RL 47 yX3_due, Cond.instanceMethod yX3_due, Cond.selects RX3 yX3_due yX3_due, Cond.initialized RX3, Cond.code yX3_due cX3_due 2 (some .int), Cond.fieldLink RX3 10 "CashAllocator" "billBook" "LCashAllocator$BillBook;", Cond.fieldLink RX3 30 "CashAllocator" "today" "I", Cond.methodLink RX3 117 yX3_requireBill, Cond.instanceMethod yX3_requireBill, Cond.selects RX3 yX3_requireBill yX3_requireBill, Cond.code yX3_requireBill cX3_requireBill 2 none, Cond.classLink RX3 145 "java/lang/IndexOutOfBoundsException", Cond.initialized "java/lang/IndexOutOfBoundsException", Cond.fieldLink RX3 43 "CashAllocator$BillBook" "count" "I", Cond.methodLink RX3 132 yX0_dueOn, Cond.instanceMethod yX0_dueOn, Cond.selects RX0 yX0_dueOn yX0_dueOn, Cond.initialized RX0, Cond.code yX0_dueOn cX0_dueOn 4 (some .int), Cond.fieldLink RX0 21 "CashAllocator$BillBook" "discount" "[I", Cond.methodLink RX0 49 yX0_openSum, Cond.instanceMethod yX0_openSum, Cond.selects RX0 yX0_openSum yX0_openSum]
def wsL_due_r2 : List Cond := [Cond.code yX0_openSum cX0_openSum 2 (some .int), Cond.fieldLink RX0 15 "CashAllocator$BillBook" "amount" "[I", Cond.fieldLink RX0 27 "CashAllocator$BillBook" "paid" "[I", Cond.fieldLink RX0 30 "CashAllocator$BillBook" "taken" "[I", Cond.fieldLink RX0 36 "CashAllocator$BillBook" "disputed" "[I", Cond.fieldLink RX0 42 "CashAllocator$BillBook" "writtenOff" "[I", Cond.methodLink RX0 53 yX0_allowsDiscount, Cond.instanceMethod yX0_allowsDiscount, Cond.selects RX0 yX0_allowsDiscount yX0_allowsDiscount, Cond.code yX0_allowsDiscount cX0_allowsDiscount 3 (some .boolean), Cond.fieldLink RX0 24 "CashAllocator$BillBook" "lastDiscountDay" "[I"]
def wsL_due : List Cond := .codeWith yL_due cL_due 4 (some .int) [(0, 9, 12, 13)] :: ((wsL_due_r1 ++ wsL_due_r2) ++ wsX30 ++ wsX00 ++ (vx_atS RX3 149 "java/lang/IndexOutOfBoundsException" ["java/lang/RuntimeException", "java/lang/Exception"]).filter goodWord)
def wsL_paid : List Cond := .codeWith yL_paid cL_paid 4 (some .int) [(0, 9, 12, 13)] :: ([.classLink RL 13 "java/lang/IndexOutOfBoundsException", .methodLink RL 50 yX3_paid, .instanceMethod yX3_paid, .selects RX3 yX3_paid yX3_paid, .initialized RX3, .code yX3_paid cX3_paid 2 (some .int), .fieldLink RX3 10 "CashAllocator" "billBook" "LCashAllocator$BillBook;", .fieldLink RX3 135 "CashAllocator$BillBook" "paid" "[I", .methodLink RX3 117 yX3_requireBill, .instanceMethod yX3_requireBill, .selects RX3 yX3_requireBill yX3_requireBill, .code yX3_requireBill cX3_requireBill 2 none, .classLink RX3 145 "java/lang/IndexOutOfBoundsException", .initialized "java/lang/IndexOutOfBoundsException", .fieldLink RX3 43 "CashAllocator$BillBook" "count" "I"] ++ wsX30 ++ wsX00 ++ (vx_atS RX3 149 "java/lang/IndexOutOfBoundsException" ["java/lang/RuntimeException", "java/lang/Exception"]).filter goodWord)
def wsL_taken : List Cond := .codeWith yL_taken cL_taken 4 (some .int) [(0, 9, 12, 13)] :: ([.classLink RL 13 "java/lang/IndexOutOfBoundsException", .methodLink RL 53 yX3_taken, .instanceMethod yX3_taken, .selects RX3 yX3_taken yX3_taken, .initialized RX3, .code yX3_taken cX3_taken 2 (some .int), .fieldLink RX3 10 "CashAllocator" "billBook" "LCashAllocator$BillBook;", .fieldLink RX3 138 "CashAllocator$BillBook" "taken" "[I", .methodLink RX3 117 yX3_requireBill, .instanceMethod yX3_requireBill, .selects RX3 yX3_requireBill yX3_requireBill, .code yX3_requireBill cX3_requireBill 2 none, .classLink RX3 145 "java/lang/IndexOutOfBoundsException", .initialized "java/lang/IndexOutOfBoundsException", .fieldLink RX3 43 "CashAllocator$BillBook" "count" "I"] ++ wsX30 ++ wsX00 ++ (vx_atS RX3 149 "java/lang/IndexOutOfBoundsException" ["java/lang/RuntimeException", "java/lang/Exception"]).filter goodWord)
def wsL_disputed : List Cond := .codeWith yL_disputed cL_disputed 4 (some .int) [(0, 9, 12, 13)] :: ([.classLink RL 13 "java/lang/IndexOutOfBoundsException", .methodLink RL 56 yX3_disputed, .instanceMethod yX3_disputed, .selects RX3 yX3_disputed yX3_disputed, .initialized RX3, .code yX3_disputed cX3_disputed 2 (some .int), .fieldLink RX3 10 "CashAllocator" "billBook" "LCashAllocator$BillBook;", .fieldLink RX3 120 "CashAllocator$BillBook" "disputed" "[I", .methodLink RX3 117 yX3_requireBill, .instanceMethod yX3_requireBill, .selects RX3 yX3_requireBill yX3_requireBill, .code yX3_requireBill cX3_requireBill 2 none, .classLink RX3 145 "java/lang/IndexOutOfBoundsException", .initialized "java/lang/IndexOutOfBoundsException", .fieldLink RX3 43 "CashAllocator$BillBook" "count" "I"] ++ wsX30 ++ wsX00 ++ (vx_atS RX3 149 "java/lang/IndexOutOfBoundsException" ["java/lang/RuntimeException", "java/lang/Exception"]).filter goodWord)
def wsL_writtenOff : List Cond := .codeWith yL_writtenOff cL_writtenOff 4 (some .int) [(0, 9, 12, 13)] :: ([.classLink RL 13 "java/lang/IndexOutOfBoundsException", .methodLink RL 59 yX3_writtenOff, .instanceMethod yX3_writtenOff, .selects RX3 yX3_writtenOff yX3_writtenOff, .initialized RX3, .code yX3_writtenOff cX3_writtenOff 2 (some .int), .fieldLink RX3 10 "CashAllocator" "billBook" "LCashAllocator$BillBook;", .fieldLink RX3 141 "CashAllocator$BillBook" "writtenOff" "[I", .methodLink RX3 117 yX3_requireBill, .instanceMethod yX3_requireBill, .selects RX3 yX3_requireBill yX3_requireBill, .code yX3_requireBill cX3_requireBill 2 none, .classLink RX3 145 "java/lang/IndexOutOfBoundsException", .initialized "java/lang/IndexOutOfBoundsException", .fieldLink RX3 43 "CashAllocator$BillBook" "count" "I"] ++ wsX30 ++ wsX00 ++ (vx_atS RX3 149 "java/lang/IndexOutOfBoundsException" ["java/lang/RuntimeException", "java/lang/Exception"]).filter goodWord)
def wsL_openOf : List Cond := .codeWith yL_openOf cL_openOf 4 (some .int) [(0, 9, 12, 13)] :: ([.classLink RL 13 "java/lang/IndexOutOfBoundsException", .methodLink RL 62 yX3_openOf, .instanceMethod yX3_openOf, .selects RX3 yX3_openOf yX3_openOf, .initialized RX3, .code yX3_openOf cX3_openOf 4 (some .int), .fieldLink RX3 10 "CashAllocator" "billBook" "LCashAllocator$BillBook;", .fieldLink RX3 43 "CashAllocator$BillBook" "count" "I", .fieldLink RX3 144 "CashAllocator$BillBook" "customer" "[I", .methodLink RX3 34 yX3_requireCustomer, .static yX3_requireCustomer, .code yX3_requireCustomer cX3_requireCustomer 1 none, .classLink RX3 145 "java/lang/IndexOutOfBoundsException", .initialized "java/lang/IndexOutOfBoundsException", .methodLink RX3 129 yX0_openSum, .instanceMethod yX0_openSum, .selects RX0 yX0_openSum yX0_openSum, .initialized RX0, .code yX0_openSum cX0_openSum 2 (some .int), .fieldLink RX0 15 "CashAllocator$BillBook" "amount" "[I", .fieldLink RX0 27 "CashAllocator$BillBook" "paid" "[I", .fieldLink RX0 30 "CashAllocator$BillBook" "taken" "[I", .fieldLink RX0 36 "CashAllocator$BillBook" "disputed" "[I", .fieldLink RX0 42 "CashAllocator$BillBook" "writtenOff" "[I"] ++ wsX30 ++ wsX00 ++ (vx_atS RX3 149 "java/lang/IndexOutOfBoundsException" ["java/lang/RuntimeException", "java/lang/Exception"]).filter goodWord)
def wsL_setFor_r1 : List Cond := [Cond.classLink RL 13 "java/lang/IndexOutOfBoundsException", Cond.classLink RL 15 "java/lang/IllegalArgumentException", Cond.methodLink RL 65 yX3_setFor, Cond.instanceMethod yX3_setFor, Cond.selects RX3 yX3_setFor yX3_setFor, Cond.initialized RX3, Cond.code yX3_setFor cX3_setFor 4 (some .int), Cond.classLink RX3 145 "java/lang/IndexOutOfBoundsException", Cond.initialized "java/lang/IndexOutOfBoundsException", Cond.classLink RX3 150 "java/lang/IllegalArgumentException", Cond.initialized "java/lang/IllegalArgumentException", Cond.fieldLink RX3 26 "CashAllocator" "exactSet" "LCashAllocator$ExactSet;", Cond.fieldLink RX3 158 "CashAllocator$ExactSet" "chosen" "[I", Cond.methodLink RX3 34 yX3_requireCustomer, Cond.static yX3_requireCustomer, Cond.code yX3_requireCustomer cX3_requireCustomer 1 none, Cond.methodLink RX3 155 yX3_chooseExactSet, Cond.instanceMethod yX3_chooseExactSet, Cond.selects RX3 yX3_chooseExactSet yX3_chooseExactSet, Cond.code yX3_chooseExactSet cX3_chooseExactSet 4 none, Cond.fieldLink RX3 10 "CashAllocator" "billBook" "LCashAllocator$BillBook;", Cond.fieldLink RX3 43 "CashAllocator$BillBook" "count" "I", Cond.fieldLink RX3 30 "CashAllocator" "today" "I", Cond.methodLink RX3 206 yX1_clear]
def wsL_setFor_r2 : List Cond := [Cond.instanceMethod yX1_clear, Cond.selects RX1 yX1_clear yX1_clear, Cond.initialized RX1, Cond.code yX1_clear cX1_clear 1 none, Cond.fieldLink RX1 21 "CashAllocator$ExactSet" "count" "I", Cond.fieldLink RX1 18 "CashAllocator$ExactSet" "chosen" "[I", Cond.methodLink RX3 182 yX0_isOpenFor, Cond.instanceMethod yX0_isOpenFor, Cond.selects RX0 yX0_isOpenFor yX0_isOpenFor, Cond.initialized RX0, Cond.code yX0_isOpenFor cX0_isOpenFor 3 (some .boolean), Cond.fieldLink RX0 9 "CashAllocator$BillBook" "customer" "[I", Cond.methodLink RX0 49 yX0_openSum, Cond.instanceMethod yX0_openSum, Cond.selects RX0 yX0_openSum yX0_openSum, Cond.code yX0_openSum cX0_openSum 2 (some .int), Cond.fieldLink RX0 15 "CashAllocator$BillBook" "amount" "[I", Cond.fieldLink RX0 27 "CashAllocator$BillBook" "paid" "[I", Cond.fieldLink RX0 30 "CashAllocator$BillBook" "taken" "[I", Cond.fieldLink RX0 36 "CashAllocator$BillBook" "disputed" "[I", Cond.fieldLink RX0 42 "CashAllocator$BillBook" "writtenOff" "[I", Cond.methodLink RX3 132 yX0_dueOn, Cond.instanceMethod yX0_dueOn, Cond.selects RX0 yX0_dueOn yX0_dueOn]
def wsL_setFor_r3 : List Cond := [Cond.code yX0_dueOn cX0_dueOn 4 (some .int), Cond.fieldLink RX0 21 "CashAllocator$BillBook" "discount" "[I", Cond.methodLink RX0 53 yX0_allowsDiscount, Cond.instanceMethod yX0_allowsDiscount, Cond.selects RX0 yX0_allowsDiscount yX0_allowsDiscount, Cond.code yX0_allowsDiscount cX0_allowsDiscount 3 (some .boolean), Cond.fieldLink RX0 24 "CashAllocator$BillBook" "lastDiscountDay" "[I", Cond.methodLink RX3 209 yX1_offer, Cond.instanceMethod yX1_offer, Cond.selects RX1 yX1_offer yX1_offer, Cond.code yX1_offer cX1_offer 3 none, Cond.fieldLink RX1 9 "CashAllocator$ExactSet" "offered" "[I", Cond.fieldLink RX1 15 "CashAllocator$ExactSet" "dues" "[I", Cond.methodLink RX3 212 yX1_choose, Cond.instanceMethod yX1_choose, Cond.selects RX1 yX1_choose yX1_choose, Cond.code yX1_choose cX1_choose 2 none, Cond.methodLink RX1 25 yX1_chooseOne, Cond.instanceMethod yX1_chooseOne, Cond.selects RX1 yX1_chooseOne yX1_chooseOne, Cond.code yX1_chooseOne cX1_chooseOne 3 (some .boolean), Cond.methodLink RX1 36 yX1_find, Cond.instanceMethod yX1_find, Cond.selects RX1 yX1_find yX1_find]
def wsL_setFor_r4 : List Cond := [Cond.code yX1_find cX1_find 4 (some .int), Cond.methodLink RX1 29 yX1_chooseTwo, Cond.instanceMethod yX1_chooseTwo, Cond.selects RX1 yX1_chooseTwo yX1_chooseTwo, Cond.code yX1_chooseTwo cX1_chooseTwo 4 (some .boolean), Cond.methodLink RX1 32 yX1_chooseThree, Cond.instanceMethod yX1_chooseThree, Cond.selects RX1 yX1_chooseThree yX1_chooseThree, Cond.code yX1_chooseThree cX1_chooseThree 5 none]
def wsL_setFor : List Cond := .codeWith yL_setFor cL_setFor 6 (some .int) [(0, 12, 15, 13), (0, 12, 19, 15)] :: ((wsL_setFor_r1 ++ (wsL_setFor_r2 ++ (wsL_setFor_r3 ++ wsL_setFor_r4))) ++ wsX30 ++ wsX10 ++ wsX00 ++ (vx_atS RX3 149 "java/lang/IndexOutOfBoundsException" ["java/lang/RuntimeException", "java/lang/Exception"]).filter goodWord ++ (vx_atS RX3 154 "java/lang/IllegalArgumentException" ["java/lang/RuntimeException", "java/lang/Exception"]).filter goodWord)
def wsL_customerOf : List Cond := .codeWith yL_customerOf cL_customerOf 4 (some .int) [(0, 9, 12, 13)] :: ([.classLink RL 13 "java/lang/IndexOutOfBoundsException", .methodLink RL 68 yX3_customerOf, .instanceMethod yX3_customerOf, .selects RX3 yX3_customerOf yX3_customerOf, .initialized RX3, .code yX3_customerOf cX3_customerOf 2 (some .int), .fieldLink RX3 19 "CashAllocator" "receiptBook" "LCashAllocator$ReceiptBook;", .fieldLink RX3 79 "CashAllocator$ReceiptBook" "customer" "[I", .methodLink RX3 73 yX3_requireReceipt, .instanceMethod yX3_requireReceipt, .selects RX3 yX3_requireReceipt yX3_requireReceipt, .code yX3_requireReceipt cX3_requireReceipt 2 none, .classLink RX3 145 "java/lang/IndexOutOfBoundsException", .initialized "java/lang/IndexOutOfBoundsException", .fieldLink RX3 61 "CashAllocator$ReceiptBook" "count" "I"] ++ wsX30 ++ wsX20 ++ (vx_atS RX3 149 "java/lang/IndexOutOfBoundsException" ["java/lang/RuntimeException", "java/lang/Exception"]).filter goodWord)
def wsL_appliedTo_r1 : List Cond := [Cond.classLink RL 13 "java/lang/IndexOutOfBoundsException", Cond.methodLink RL 71 yX3_appliedTo, Cond.instanceMethod yX3_appliedTo, Cond.selects RX3 yX3_appliedTo yX3_appliedTo, Cond.initialized RX3, Cond.code yX3_appliedTo cX3_appliedTo 3 (some .int), Cond.fieldLink RX3 19 "CashAllocator" "receiptBook" "LCashAllocator$ReceiptBook;", Cond.methodLink RX3 73 yX3_requireReceipt, Cond.instanceMethod yX3_requireReceipt, Cond.selects RX3 yX3_requireReceipt yX3_requireReceipt, Cond.code yX3_requireReceipt cX3_requireReceipt 2 none, Cond.classLink RX3 145 "java/lang/IndexOutOfBoundsException", Cond.initialized "java/lang/IndexOutOfBoundsException", Cond.fieldLink RX3 61 "CashAllocator$ReceiptBook" "count" "I", Cond.methodLink RX3 117 yX3_requireBill, Cond.instanceMethod yX3_requireBill, Cond.selects RX3 yX3_requireBill yX3_requireBill, Cond.code yX3_requireBill cX3_requireBill 2 none, Cond.fieldLink RX3 10 "CashAllocator" "billBook" "LCashAllocator$BillBook;", Cond.fieldLink RX3 43 "CashAllocator$BillBook" "count" "I", Cond.methodLink RX3 105 yX2_paidOf, Cond.instanceMethod yX2_paidOf, Cond.selects RX2 yX2_paidOf yX2_paidOf, Cond.initialized RX2]
def wsL_appliedTo_r2 : List Cond := [Cond.code yX2_paidOf cX2_paidOf 3 (some .int), Cond.fieldLink RX2 31 "CashAllocator$ReceiptBook" "sums" "[I", Cond.methodLink RX2 41 yX2_cell, Cond.static yX2_cell, Cond.code yX2_cell cX2_cell 2 (some .int)]
def wsL_appliedTo : List Cond := .codeWith yL_appliedTo cL_appliedTo 5 (some .int) [(0, 10, 13, 13)] :: ((wsL_appliedTo_r1 ++ wsL_appliedTo_r2) ++ wsX30 ++ wsX20 ++ wsX00 ++ (vx_atS RX3 149 "java/lang/IndexOutOfBoundsException" ["java/lang/RuntimeException", "java/lang/Exception"]).filter goodWord)
def wsL_unapplied : List Cond := .codeWith yL_unapplied cL_unapplied 4 (some .int) [(0, 9, 12, 13)] :: ([.classLink RL 13 "java/lang/IndexOutOfBoundsException", .methodLink RL 74 yX3_unapplied, .instanceMethod yX3_unapplied, .selects RX3 yX3_unapplied yX3_unapplied, .initialized RX3, .code yX3_unapplied cX3_unapplied 2 (some .int), .fieldLink RX3 19 "CashAllocator" "receiptBook" "LCashAllocator$ReceiptBook;", .fieldLink RX3 85 "CashAllocator$ReceiptBook" "unapplied" "[I", .methodLink RX3 73 yX3_requireReceipt, .instanceMethod yX3_requireReceipt, .selects RX3 yX3_requireReceipt yX3_requireReceipt, .code yX3_requireReceipt cX3_requireReceipt 2 none, .classLink RX3 145 "java/lang/IndexOutOfBoundsException", .initialized "java/lang/IndexOutOfBoundsException", .fieldLink RX3 61 "CashAllocator$ReceiptBook" "count" "I"] ++ wsX30 ++ wsX20 ++ (vx_atS RX3 149 "java/lang/IndexOutOfBoundsException" ["java/lang/RuntimeException", "java/lang/Exception"]).filter goodWord)
def wsL_hasBounced : List Cond := .codeWith yL_hasBounced cL_hasBounced 4 (some .int) [(0, 16, 19, 13)] :: ([.classLink RL 13 "java/lang/IndexOutOfBoundsException", .methodLink RL 77 yX3_hasBounced, .instanceMethod yX3_hasBounced, .selects RX3 yX3_hasBounced yX3_hasBounced, .initialized RX3, .code yX3_hasBounced cX3_hasBounced 2 (some .boolean), .fieldLink RX3 19 "CashAllocator" "receiptBook" "LCashAllocator$ReceiptBook;", .fieldLink RX3 161 "CashAllocator$ReceiptBook" "isBounced" "[Z", .methodLink RX3 73 yX3_requireReceipt, .instanceMethod yX3_requireReceipt, .selects RX3 yX3_requireReceipt yX3_requireReceipt, .code yX3_requireReceipt cX3_requireReceipt 2 none, .classLink RX3 145 "java/lang/IndexOutOfBoundsException", .initialized "java/lang/IndexOutOfBoundsException", .fieldLink RX3 61 "CashAllocator$ReceiptBook" "count" "I"] ++ wsX30 ++ wsX20 ++ (vx_atS RX3 149 "java/lang/IndexOutOfBoundsException" ["java/lang/RuntimeException", "java/lang/Exception"]).filter goodWord)
def wsL_law0_r1 : List Cond := [Cond.classLink RL 8 RX3, Cond.instantiable RX3 4, Cond.initialized RX3, Cond.classLink RL 82 RX4, Cond.instantiable RX4 24, Cond.initialized RX4, Cond.arrayClass .long, Cond.methodLink RL 81 yX3_init, Cond.instanceMethod yX3_init, Cond.code yX3_init cX3_init 1 none, Cond.methodLink RX3 1 objectInit, Cond.instanceMethod objectInit, Cond.code objectInit ⟨#[0xb1]⟩ 1 none, Cond.classLink RX3 7 RX0, Cond.instantiable RX0 12, Cond.initialized RX0, Cond.fieldLink RX3 10 "CashAllocator" "billBook" "LCashAllocator$BillBook;", Cond.classLink RX3 16 RX2, Cond.instantiable RX2 9, Cond.initialized RX2, Cond.fieldLink RX3 19 "CashAllocator" "receiptBook" "LCashAllocator$ReceiptBook;", Cond.classLink RX3 23 RX1, Cond.instantiable RX1 4, Cond.initialized RX1]
def wsL_law0_r2 : List Cond := [Cond.fieldLink RX3 26 "CashAllocator" "exactSet" "LCashAllocator$ExactSet;", Cond.fieldLink RX3 30 "CashAllocator" "today" "I", Cond.instanceMethod yX0_init, Cond.code yX0_init cX0_init 1 none, Cond.methodLink RX0 3 objectInit, Cond.arrayClass .int, Cond.fieldLink RX0 9 "CashAllocator$BillBook" "customer" "[I", Cond.fieldLink RX0 15 "CashAllocator$BillBook" "amount" "[I", Cond.fieldLink RX0 18 "CashAllocator$BillBook" "reference" "[I", Cond.fieldLink RX0 21 "CashAllocator$BillBook" "discount" "[I", Cond.fieldLink RX0 24 "CashAllocator$BillBook" "lastDiscountDay" "[I", Cond.fieldLink RX0 27 "CashAllocator$BillBook" "paid" "[I", Cond.fieldLink RX0 30 "CashAllocator$BillBook" "taken" "[I", Cond.fieldLink RX0 33 "CashAllocator$BillBook" "takenBy" "[I", Cond.fieldLink RX0 36 "CashAllocator$BillBook" "disputed" "[I", Cond.fieldLink RX0 39 "CashAllocator$BillBook" "disputedBy" "[I", Cond.fieldLink RX0 42 "CashAllocator$BillBook" "writtenOff" "[I", Cond.instanceMethod yX2_init, Cond.code yX2_init cX2_init 1 none, Cond.methodLink RX2 3 objectInit, Cond.fieldLink RX2 9 "CashAllocator$ReceiptBook" "customer" "[I", Cond.fieldLink RX2 15 "CashAllocator$ReceiptBook" "amount" "[I", Cond.fieldLink RX2 18 "CashAllocator$ReceiptBook" "applied" "[I", Cond.fieldLink RX2 21 "CashAllocator$ReceiptBook" "unapplied" "[I"]
def wsL_law0_r3 : List Cond := [Cond.fieldLink RX2 24 "CashAllocator$ReceiptBook" "paidBack" "[I", Cond.arrayClass .boolean, Cond.fieldLink RX2 27 "CashAllocator$ReceiptBook" "isBounced" "[Z", Cond.fieldLink RX2 31 "CashAllocator$ReceiptBook" "sums" "[I", Cond.fieldLink RX2 34 "CashAllocator$ReceiptBook" "hasSum" "[Z", Cond.instanceMethod yX1_init, Cond.code yX1_init cX1_init 1 none, Cond.methodLink RX1 3 objectInit, Cond.fieldLink RX1 9 "CashAllocator$ExactSet" "offered" "[I", Cond.fieldLink RX1 15 "CashAllocator$ExactSet" "dues" "[I", Cond.fieldLink RX1 18 "CashAllocator$ExactSet" "chosen" "[I", Cond.methodLink RL 84 yX4_init, Cond.instanceMethod yX4_init, Cond.code yX4_init cX4_init 1 none, Cond.methodLink RX4 1 objectInit, Cond.fieldLink RX4 7 "CashAllocatorModel" "owners" "[I", Cond.fieldLink RX4 13 "CashAllocatorModel" "amounts" "[I", Cond.fieldLink RX4 16 "CashAllocatorModel" "references" "[I", Cond.fieldLink RX4 19 "CashAllocatorModel" "days" "[I", Cond.fieldLink RX4 22 "CashAllocatorModel" "rates" "[I", Cond.fieldLink RX4 25 "CashAllocatorModel" "spans" "[I", Cond.fieldLink RX4 28 "CashAllocatorModel" "paidOf" "[I", Cond.fieldLink RX4 31 "CashAllocatorModel" "takenOf" "[I", Cond.fieldLink RX4 34 "CashAllocatorModel" "takers" "[I"]
def wsL_law0_r4 : List Cond := [Cond.fieldLink RX4 37 "CashAllocatorModel" "disputedOf" "[I", Cond.fieldLink RX4 40 "CashAllocatorModel" "raisers" "[I", Cond.fieldLink RX4 43 "CashAllocatorModel" "writtenOf" "[I", Cond.fieldLink RX4 46 "CashAllocatorModel" "sums" "[I", Cond.fieldLink RX4 49 "CashAllocatorModel" "payers" "[I", Cond.fieldLink RX4 52 "CashAllocatorModel" "left" "[I", Cond.fieldLink RX4 55 "CashAllocatorModel" "backs" "[I", Cond.fieldLink RX4 58 "CashAllocatorModel" "isBounced" "[Z", Cond.fieldLink RX4 62 "CashAllocatorModel" "paidBy" "[I", Cond.fieldLink RX4 65 "CashAllocatorModel" "hasPaid" "[Z", Cond.fieldLink RX4 68 "CashAllocatorModel" "chosen" "[I", Cond.methodLink RL 85 yL_bill, Cond.static yL_bill, Cond.initialized RL, Cond.codeWith yL_bill cL_bill 8 (some .int) [(0, 16, 19, 13), (0, 16, 23, 15), (0, 16, 27, 17)], Cond.classLink RL 13 "java/lang/IndexOutOfBoundsException", Cond.classLink RL 15 "java/lang/IllegalArgumentException", Cond.classLink RL 17 "java/lang/IllegalStateException", Cond.methodLink RL 7 yX3_bill, Cond.instanceMethod yX3_bill, Cond.selects RX3 yX3_bill yX3_bill, Cond.code yX3_bill cX3_bill 6 (some .int), Cond.classLink RX3 46 "java/lang/IllegalStateException", Cond.initialized "java/lang/IllegalStateException"]
def wsL_law0_r5 : List Cond := [Cond.constant RX3 38 (1000000), Cond.fieldLink RX3 43 "CashAllocator$BillBook" "count" "I", Cond.methodLink RX3 34 yX3_requireCustomer, Cond.static yX3_requireCustomer, Cond.code yX3_requireCustomer cX3_requireCustomer 1 none, Cond.classLink RX3 145 "java/lang/IndexOutOfBoundsException", Cond.initialized "java/lang/IndexOutOfBoundsException", Cond.methodLink RX3 39 yX3_requireWithin, Cond.static yX3_requireWithin, Cond.code yX3_requireWithin cX3_requireWithin 3 none, Cond.classLink RX3 150 "java/lang/IllegalArgumentException", Cond.initialized "java/lang/IllegalArgumentException", Cond.methodLink RX3 53 yX3_discountOf, Cond.static yX3_discountOf, Cond.code yX3_discountOf cX3_discountOf 2 (some .int), Cond.constantLong RX3 225 (10000), Cond.methodLink RX3 57 yX0_add, Cond.instanceMethod yX0_add, Cond.selects RX0 yX0_add yX0_add, Cond.code yX0_add cX0_add 7 (some .int), Cond.fieldLink RX0 45 "CashAllocator$BillBook" "count" "I", Cond.methodLink RL 90 yX4_bill, Cond.instanceMethod yX4_bill, Cond.selects RX4 yX4_bill yX4_bill]
def wsL_law0_r6 : List Cond := [Cond.code yX4_bill cX4_bill 7 (some .int), Cond.constant RX4 120 (1000000), Cond.fieldLink RX4 79 "CashAllocatorModel" "bills" "I", Cond.fieldLink RX4 89 "CashAllocatorModel" "day" "I", Cond.methodLink RX4 75 yX4_in, Cond.static yX4_in, Cond.code yX4_in cX4_in 3 (some .boolean), Cond.methodLink RX4 121 yX4_isCustomer, Cond.static yX4_isCustomer, Cond.code yX4_isCustomer cX4_isCustomer 1 (some .boolean), Cond.methodLink RX4 124 yX4_refused, Cond.instanceMethod yX4_refused, Cond.selects RX4 yX4_refused yX4_refused, Cond.code yX4_refused cX4_refused 2 (some .boolean), Cond.fieldLink RX4 71 "CashAllocatorModel" "refusal" "I", Cond.methodLink RL 91 yX4_thrown, Cond.instanceMethod yX4_thrown, Cond.selects RX4 yX4_thrown yX4_thrown, Cond.code yX4_thrown cX4_thrown 1 (some .int), Cond.methodLink RL 95 yL_receive, Cond.static yL_receive, Cond.codeWith yL_receive cL_receive 6 (some .int) [(0, 12, 15, 13), (0, 12, 19, 15), (0, 12, 23, 17)], Cond.methodLink RL 19 yX3_receive, Cond.instanceMethod yX3_receive]
def wsL_law0_r7 : List Cond := [Cond.selects RX3 yX3_receive yX3_receive, Cond.code yX3_receive cX3_receive 5 (some .int), Cond.fieldLink RX3 61 "CashAllocator$ReceiptBook" "count" "I", Cond.methodLink RX3 64 yX2_add, Cond.instanceMethod yX2_add, Cond.selects RX2 yX2_add yX2_add, Cond.code yX2_add cX2_add 4 (some .int), Cond.fieldLink RX2 37 "CashAllocator$ReceiptBook" "count" "I", Cond.methodLink RX3 66 yX3_payNamedBills, Cond.instanceMethod yX3_payNamedBills, Cond.selects RX3 yX3_payNamedBills yX3_payNamedBills, Cond.code yX3_payNamedBills cX3_payNamedBills 6 none, Cond.fieldLink RX3 79 "CashAllocator$ReceiptBook" "customer" "[I", Cond.fieldLink RX3 85 "CashAllocator$ReceiptBook" "unapplied" "[I", Cond.fieldLink RX3 185 "CashAllocator$BillBook" "reference" "[I", Cond.methodLink RX3 179 yX0_customerNamedBy, Cond.instanceMethod yX0_customerNamedBy, Cond.selects RX0 yX0_customerNamedBy yX0_customerNamedBy, Cond.code yX0_customerNamedBy cX0_customerNamedBy 3 (some .int), Cond.methodLink RX0 49 yX0_openSum, Cond.instanceMethod yX0_openSum, Cond.selects RX0 yX0_openSum yX0_openSum, Cond.code yX0_openSum cX0_openSum 2 (some .int), Cond.methodLink RX3 182 yX0_isOpenFor]
def wsL_law0_r8 : List Cond := [Cond.instanceMethod yX0_isOpenFor, Cond.selects RX0 yX0_isOpenFor yX0_isOpenFor, Cond.code yX0_isOpenFor cX0_isOpenFor 3 (some .boolean), Cond.methodLink RX3 188 yX3_payBill, Cond.instanceMethod yX3_payBill, Cond.selects RX3 yX3_payBill yX3_payBill, Cond.code yX3_payBill cX3_payBill 7 (some .boolean), Cond.fieldLink RX3 135 "CashAllocator$BillBook" "paid" "[I", Cond.methodLink RX3 132 yX0_dueOn, Cond.instanceMethod yX0_dueOn, Cond.selects RX0 yX0_dueOn yX0_dueOn, Cond.code yX0_dueOn cX0_dueOn 4 (some .int), Cond.methodLink RX0 53 yX0_allowsDiscount, Cond.instanceMethod yX0_allowsDiscount, Cond.selects RX0 yX0_allowsDiscount yX0_allowsDiscount, Cond.code yX0_allowsDiscount cX0_allowsDiscount 3 (some .boolean), Cond.methodLink RX3 200 yX0_takeDiscount, Cond.instanceMethod yX0_takeDiscount, Cond.selects RX0 yX0_takeDiscount yX0_takeDiscount, Cond.code yX0_takeDiscount cX0_takeDiscount 4 none, Cond.methodLink RX3 203 yX2_addPayment, Cond.instanceMethod yX2_addPayment, Cond.selects RX2 yX2_addPayment yX2_addPayment, Cond.code yX2_addPayment cX2_addPayment 4 none]
def wsL_law0_r9 : List Cond := [Cond.methodLink RX2 41 yX2_cell, Cond.static yX2_cell, Cond.code yX2_cell cX2_cell 2 (some .int), Cond.methodLink RX3 191 yX0_disputeRest, Cond.instanceMethod yX0_disputeRest, Cond.selects RX0 yX0_disputeRest yX0_disputeRest, Cond.code yX0_disputeRest cX0_disputeRest 3 none, Cond.methodLink RX3 70 yX3_payOtherBills, Cond.instanceMethod yX3_payOtherBills, Cond.selects RX3 yX3_payOtherBills yX3_payOtherBills, Cond.code yX3_payOtherBills cX3_payOtherBills 2 none, Cond.methodLink RX3 194 yX3_payExactSet, Cond.instanceMethod yX3_payExactSet, Cond.selects RX3 yX3_payExactSet yX3_payExactSet, Cond.code yX3_payExactSet cX3_payExactSet 4 none, Cond.fieldLink RX3 158 "CashAllocator$ExactSet" "chosen" "[I", Cond.methodLink RX3 155 yX3_chooseExactSet, Cond.instanceMethod yX3_chooseExactSet, Cond.selects RX3 yX3_chooseExactSet yX3_chooseExactSet, Cond.code yX3_chooseExactSet cX3_chooseExactSet 4 none, Cond.methodLink RX3 206 yX1_clear, Cond.instanceMethod yX1_clear, Cond.selects RX1 yX1_clear yX1_clear, Cond.code yX1_clear cX1_clear 1 none]
def wsL_law0_r10 : List Cond := [Cond.fieldLink RX1 21 "CashAllocator$ExactSet" "count" "I", Cond.methodLink RX3 209 yX1_offer, Cond.instanceMethod yX1_offer, Cond.selects RX1 yX1_offer yX1_offer, Cond.code yX1_offer cX1_offer 3 none, Cond.methodLink RX3 212 yX1_choose, Cond.instanceMethod yX1_choose, Cond.selects RX1 yX1_choose yX1_choose, Cond.code yX1_choose cX1_choose 2 none, Cond.methodLink RX1 25 yX1_chooseOne, Cond.instanceMethod yX1_chooseOne, Cond.selects RX1 yX1_chooseOne yX1_chooseOne, Cond.code yX1_chooseOne cX1_chooseOne 3 (some .boolean), Cond.methodLink RX1 36 yX1_find, Cond.instanceMethod yX1_find, Cond.selects RX1 yX1_find yX1_find, Cond.code yX1_find cX1_find 4 (some .int), Cond.methodLink RX1 29 yX1_chooseTwo, Cond.instanceMethod yX1_chooseTwo, Cond.selects RX1 yX1_chooseTwo yX1_chooseTwo, Cond.code yX1_chooseTwo cX1_chooseTwo 4 (some .boolean), Cond.methodLink RX1 32 yX1_chooseThree, Cond.instanceMethod yX1_chooseThree, Cond.selects RX1 yX1_chooseThree yX1_chooseThree]
def wsL_law0_r11 : List Cond := [Cond.code yX1_chooseThree cX1_chooseThree 5 none, Cond.methodLink RX3 197 yX3_payOldestBills, Cond.instanceMethod yX3_payOldestBills, Cond.selects RX3 yX3_payOldestBills yX3_payOldestBills, Cond.code yX3_payOldestBills cX3_payOldestBills 4 none, Cond.methodLink RL 98 yX4_receive, Cond.instanceMethod yX4_receive, Cond.selects RX4 yX4_receive yX4_receive, Cond.code yX4_receive cX4_receive 6 (some .int), Cond.fieldLink RX4 82 "CashAllocatorModel" "receipts" "I", Cond.methodLink RX4 127 yX4_payNamed, Cond.instanceMethod yX4_payNamed, Cond.selects RX4 yX4_payNamed yX4_payNamed, Cond.code yX4_payNamed cX4_payNamed 5 none, Cond.methodLink RX4 85 yX4_openNow, Cond.instanceMethod yX4_openNow, Cond.selects RX4 yX4_openNow yX4_openNow, Cond.code yX4_openNow cX4_openNow 2 (some .int), Cond.methodLink RX4 100 yX4_pay, Cond.instanceMethod yX4_pay, Cond.selects RX4 yX4_pay yX4_pay, Cond.code yX4_pay cX4_pay 7 (some .boolean), Cond.methodLink RX4 97 yX4_dueNow, Cond.instanceMethod yX4_dueNow]
def wsL_law0_r12 : List Cond := [Cond.selects RX4 yX4_dueNow yX4_dueNow, Cond.code yX4_dueNow cX4_dueNow 2 (some .int), Cond.methodLink RX4 94 yX4_discount, Cond.instanceMethod yX4_discount, Cond.selects RX4 yX4_discount yX4_discount, Cond.code yX4_discount cX4_discount 3 (some .int), Cond.constantLong RX4 92 (10000), Cond.methodLink RX4 104 yX4_dispute, Cond.instanceMethod yX4_dispute, Cond.selects RX4 yX4_dispute yX4_dispute, Cond.code yX4_dispute cX4_dispute 3 none, Cond.methodLink RX4 130 yX4_payOthers, Cond.instanceMethod yX4_payOthers, Cond.selects RX4 yX4_payOthers yX4_payOthers, Cond.code yX4_payOthers cX4_payOthers 11 none, Cond.methodLink RX4 116 yX4_choose, Cond.instanceMethod yX4_choose, Cond.selects RX4 yX4_choose yX4_choose, Cond.code yX4_choose cX4_choose 12 (some .int), Cond.methodLink RX4 112 yX4_dueOf, Cond.instanceMethod yX4_dueOf, Cond.selects RX4 yX4_dueOf yX4_dueOf, Cond.code yX4_dueOf cX4_dueOf 3 (some .int), Cond.methodLink RX4 108 yX4_isBill]
def wsL_law0_r13 : List Cond := [Cond.instanceMethod yX4_isBill, Cond.selects RX4 yX4_isBill yX4_isBill, Cond.code yX4_isBill cX4_isBill 2 (some .boolean), Cond.methodLink RL 99 yL_assign, Cond.static yL_assign, Cond.codeWith yL_assign cL_assign 5 (some .int) [(0, 10, 13, 13), (0, 10, 17, 17)], Cond.methodLink RL 23 yX3_assign, Cond.instanceMethod yX3_assign, Cond.selects RX3 yX3_assign yX3_assign, Cond.code yX3_assign cX3_assign 3 (some .int), Cond.methodLink RX3 73 yX3_requireReceipt, Cond.instanceMethod yX3_requireReceipt, Cond.selects RX3 yX3_requireReceipt yX3_requireReceipt, Cond.code yX3_requireReceipt cX3_requireReceipt 2 none, Cond.methodLink RX3 76 yX3_requireNotBounced, Cond.instanceMethod yX3_requireNotBounced, Cond.selects RX3 yX3_requireNotBounced yX3_requireNotBounced, Cond.code yX3_requireNotBounced cX3_requireNotBounced 2 none, Cond.fieldLink RX3 161 "CashAllocator$ReceiptBook" "isBounced" "[Z", Cond.methodLink RL 102 yX4_assign, Cond.instanceMethod yX4_assign, Cond.selects RX4 yX4_assign yX4_assign, Cond.code yX4_assign cX4_assign 4 (some .int), Cond.methodLink RX4 134 yX4_isReceipt]
def wsL_law0_r14 : List Cond := [Cond.instanceMethod yX4_isReceipt, Cond.selects RX4 yX4_isReceipt yX4_isReceipt, Cond.code yX4_isReceipt cX4_isReceipt 2 (some .boolean), Cond.methodLink RL 103 yL_apply, Cond.static yL_apply, Cond.codeWith yL_apply cL_apply 4 (some .int) [(0, 9, 12, 13), (0, 9, 15, 17)], Cond.methodLink RL 27 yX3_apply, Cond.instanceMethod yX3_apply, Cond.selects RX3 yX3_apply yX3_apply, Cond.code yX3_apply cX3_apply 2 (some .int), Cond.methodLink RL 106 yX4_apply, Cond.instanceMethod yX4_apply, Cond.selects RX4 yX4_apply yX4_apply, Cond.code yX4_apply cX4_apply 2 (some .int), Cond.methodLink RL 107 yL_payBack, Cond.static yL_payBack, Cond.codeWith yL_payBack cL_payBack 4 (some .int) [(0, 9, 12, 13), (0, 9, 15, 17)], Cond.methodLink RL 31 yX3_payBack, Cond.instanceMethod yX3_payBack, Cond.selects RX3 yX3_payBack yX3_payBack, Cond.code yX3_payBack cX3_payBack 2 (some .int), Cond.methodLink RX3 92 yX2_payBackRest, Cond.instanceMethod yX2_payBackRest, Cond.selects RX2 yX2_payBackRest yX2_payBackRest]
def wsL_law0_r15 : List Cond := [Cond.code yX2_payBackRest cX2_payBackRest 3 (some .int), Cond.methodLink RL 109 yX4_payBack, Cond.instanceMethod yX4_payBack, Cond.selects RX4 yX4_payBack yX4_payBack, Cond.code yX4_payBack cX4_payBack 3 (some .int), Cond.methodLink RL 110 yL_bounce, Cond.static yL_bounce, Cond.codeWith yL_bounce cL_bounce 4 (some .int) [(0, 9, 12, 13), (0, 9, 15, 17)], Cond.methodLink RL 34 yX3_bounce, Cond.instanceMethod yX3_bounce, Cond.selects RX3 yX3_bounce yX3_bounce, Cond.code yX3_bounce cX3_bounce 4 (some .int), Cond.fieldLink RX3 96 "CashAllocator$ReceiptBook" "paidBack" "[I", Cond.methodLink RX3 101 yX2_hasPaid, Cond.instanceMethod yX2_hasPaid, Cond.selects RX2 yX2_hasPaid yX2_hasPaid, Cond.code yX2_hasPaid cX2_hasPaid 3 (some .boolean), Cond.methodLink RX3 105 yX2_paidOf, Cond.instanceMethod yX2_paidOf, Cond.selects RX2 yX2_paidOf yX2_paidOf, Cond.code yX2_paidOf cX2_paidOf 3 (some .int), Cond.methodLink RX3 108 yX0_undo, Cond.instanceMethod yX0_undo, Cond.selects RX0 yX0_undo yX0_undo]
def wsL_law0_r16 : List Cond := [Cond.code yX0_undo cX0_undo 4 none, Cond.methodLink RX0 57 yX0_endDispute, Cond.instanceMethod yX0_endDispute, Cond.selects RX0 yX0_endDispute yX0_endDispute, Cond.code yX0_endDispute cX0_endDispute 4 (some .int), Cond.methodLink RX3 111 yX2_dropPayment, Cond.instanceMethod yX2_dropPayment, Cond.selects RX2 yX2_dropPayment yX2_dropPayment, Cond.code yX2_dropPayment cX2_dropPayment 3 none, Cond.methodLink RX3 114 yX2_markBounced, Cond.instanceMethod yX2_markBounced, Cond.selects RX2 yX2_markBounced yX2_markBounced, Cond.code yX2_markBounced cX2_markBounced 2 none, Cond.methodLink RL 112 yX4_bounce, Cond.instanceMethod yX4_bounce, Cond.selects RX4 yX4_bounce yX4_bounce, Cond.code yX4_bounce cX4_bounce 5 (some .int), Cond.methodLink RL 113 yL_settle, Cond.static yL_settle, Cond.codeWith yL_settle cL_settle 5 (some .int) [(0, 10, 13, 13), (0, 10, 17, 17)], Cond.methodLink RL 37 yX3_settle, Cond.instanceMethod yX3_settle, Cond.selects RX3 yX3_settle yX3_settle, Cond.code yX3_settle cX3_settle 3 (some .int)]
def wsL_law0_r17 : List Cond := [Cond.fieldLink RX3 120 "CashAllocator$BillBook" "disputed" "[I", Cond.methodLink RX3 117 yX3_requireBill, Cond.instanceMethod yX3_requireBill, Cond.selects RX3 yX3_requireBill yX3_requireBill, Cond.code yX3_requireBill cX3_requireBill 2 none, Cond.methodLink RX3 125 yX0_endDispute, Cond.methodLink RL 116 yX4_settle, Cond.instanceMethod yX4_settle, Cond.selects RX4 yX4_settle yX4_settle, Cond.code yX4_settle cX4_settle 4 (some .int), Cond.methodLink RL 117 yL_advance, Cond.static yL_advance, Cond.codeWith yL_advance cL_advance 4 (some .int) [(0, 9, 12, 15)], Cond.methodLink RL 41 yX3_advance, Cond.instanceMethod yX3_advance, Cond.selects RX3 yX3_advance yX3_advance, Cond.code yX3_advance cX3_advance 2 (some .int), Cond.methodLink RL 119 yX4_advance, Cond.instanceMethod yX4_advance, Cond.selects RX4 yX4_advance yX4_advance, Cond.code yX4_advance cX4_advance 2 (some .int), Cond.methodLink RL 120 yX3_bills, Cond.instanceMethod yX3_bills, Cond.selects RX3 yX3_bills yX3_bills]
def wsL_law0_r18 : List Cond := [Cond.code yX3_bills cX3_bills 1 (some .int), Cond.methodLink RL 123 yX4_bills, Cond.instanceMethod yX4_bills, Cond.selects RX4 yX4_bills yX4_bills, Cond.code yX4_bills cX4_bills 1 (some .int), Cond.methodLink RX4 137 yX4_fine, Cond.instanceMethod yX4_fine, Cond.selects RX4 yX4_fine yX4_fine, Cond.code yX4_fine cX4_fine 2 (some .int), Cond.methodLink RL 124 yL_open, Cond.static yL_open, Cond.codeWith yL_open cL_open 4 (some .int) [(0, 9, 12, 13)], Cond.methodLink RL 44 yX3_open, Cond.instanceMethod yX3_open, Cond.selects RX3 yX3_open yX3_open, Cond.code yX3_open cX3_open 2 (some .int), Cond.methodLink RX3 129 yX0_openSum, Cond.methodLink RL 126 yX4_open, Cond.instanceMethod yX4_open, Cond.selects RX4 yX4_open yX4_open, Cond.code yX4_open cX4_open 2 (some .int), Cond.methodLink RX4 140 yX4_noBill, Cond.instanceMethod yX4_noBill, Cond.selects RX4 yX4_noBill yX4_noBill]
def wsL_law0_r19 : List Cond := [Cond.code yX4_noBill cX4_noBill 2 (some .boolean), Cond.methodLink RL 127 yL_due, Cond.static yL_due, Cond.codeWith yL_due cL_due 4 (some .int) [(0, 9, 12, 13)], Cond.methodLink RL 47 yX3_due, Cond.instanceMethod yX3_due, Cond.selects RX3 yX3_due yX3_due, Cond.code yX3_due cX3_due 2 (some .int), Cond.methodLink RL 129 yX4_due, Cond.instanceMethod yX4_due, Cond.selects RX4 yX4_due yX4_due, Cond.code yX4_due cX4_due 2 (some .int), Cond.methodLink RL 130 yL_paid, Cond.static yL_paid, Cond.codeWith yL_paid cL_paid 4 (some .int) [(0, 9, 12, 13)], Cond.methodLink RL 50 yX3_paid, Cond.instanceMethod yX3_paid, Cond.selects RX3 yX3_paid yX3_paid, Cond.code yX3_paid cX3_paid 2 (some .int), Cond.methodLink RL 132 yX4_paid, Cond.instanceMethod yX4_paid, Cond.selects RX4 yX4_paid yX4_paid, Cond.code yX4_paid cX4_paid 2 (some .int), Cond.methodLink RL 133 yL_taken]
def wsL_law0_r20 : List Cond := [Cond.static yL_taken, Cond.codeWith yL_taken cL_taken 4 (some .int) [(0, 9, 12, 13)], Cond.methodLink RL 53 yX3_taken, Cond.instanceMethod yX3_taken, Cond.selects RX3 yX3_taken yX3_taken, Cond.code yX3_taken cX3_taken 2 (some .int), Cond.fieldLink RX3 138 "CashAllocator$BillBook" "taken" "[I", Cond.methodLink RL 135 yX4_taken, Cond.instanceMethod yX4_taken, Cond.selects RX4 yX4_taken yX4_taken, Cond.code yX4_taken cX4_taken 2 (some .int), Cond.methodLink RL 136 yL_disputed, Cond.static yL_disputed, Cond.codeWith yL_disputed cL_disputed 4 (some .int) [(0, 9, 12, 13)], Cond.methodLink RL 56 yX3_disputed, Cond.instanceMethod yX3_disputed, Cond.selects RX3 yX3_disputed yX3_disputed, Cond.code yX3_disputed cX3_disputed 2 (some .int), Cond.methodLink RL 138 yX4_disputed, Cond.instanceMethod yX4_disputed, Cond.selects RX4 yX4_disputed yX4_disputed, Cond.code yX4_disputed cX4_disputed 2 (some .int), Cond.methodLink RL 139 yL_writtenOff, Cond.static yL_writtenOff]
def wsL_law0_r21 : List Cond := [Cond.codeWith yL_writtenOff cL_writtenOff 4 (some .int) [(0, 9, 12, 13)], Cond.methodLink RL 59 yX3_writtenOff, Cond.instanceMethod yX3_writtenOff, Cond.selects RX3 yX3_writtenOff yX3_writtenOff, Cond.code yX3_writtenOff cX3_writtenOff 2 (some .int), Cond.fieldLink RX3 141 "CashAllocator$BillBook" "writtenOff" "[I", Cond.methodLink RL 141 yX4_writtenOff, Cond.instanceMethod yX4_writtenOff, Cond.selects RX4 yX4_writtenOff yX4_writtenOff, Cond.code yX4_writtenOff cX4_writtenOff 2 (some .int), Cond.methodLink RL 142 yL_openOf, Cond.static yL_openOf, Cond.codeWith yL_openOf cL_openOf 4 (some .int) [(0, 9, 12, 13)], Cond.methodLink RL 62 yX3_openOf, Cond.instanceMethod yX3_openOf, Cond.selects RX3 yX3_openOf yX3_openOf, Cond.code yX3_openOf cX3_openOf 4 (some .int), Cond.fieldLink RX3 144 "CashAllocator$BillBook" "customer" "[I", Cond.methodLink RL 144 yX4_openOf, Cond.instanceMethod yX4_openOf, Cond.selects RX4 yX4_openOf yX4_openOf, Cond.code yX4_openOf cX4_openOf 4 (some .int), Cond.methodLink RL 145 yL_setFor, Cond.static yL_setFor]
def wsL_law0_r22 : List Cond := [Cond.codeWith yL_setFor cL_setFor 6 (some .int) [(0, 12, 15, 13), (0, 12, 19, 15)], Cond.methodLink RL 65 yX3_setFor, Cond.instanceMethod yX3_setFor, Cond.selects RX3 yX3_setFor yX3_setFor, Cond.code yX3_setFor cX3_setFor 4 (some .int), Cond.methodLink RL 147 yX4_setFor, Cond.instanceMethod yX4_setFor, Cond.selects RX4 yX4_setFor yX4_setFor, Cond.code yX4_setFor cX4_setFor 5 (some .int), Cond.methodLink RL 148 yX3_receipts, Cond.instanceMethod yX3_receipts, Cond.selects RX3 yX3_receipts yX3_receipts, Cond.code yX3_receipts cX3_receipts 1 (some .int), Cond.methodLink RL 151 yX4_receipts, Cond.instanceMethod yX4_receipts, Cond.selects RX4 yX4_receipts yX4_receipts, Cond.code yX4_receipts cX4_receipts 1 (some .int), Cond.methodLink RL 152 yL_customerOf, Cond.static yL_customerOf, Cond.codeWith yL_customerOf cL_customerOf 4 (some .int) [(0, 9, 12, 13)], Cond.methodLink RL 68 yX3_customerOf, Cond.instanceMethod yX3_customerOf, Cond.selects RX3 yX3_customerOf yX3_customerOf, Cond.code yX3_customerOf cX3_customerOf 2 (some .int)]
def wsL_law0_r23 : List Cond := [Cond.methodLink RL 154 yX4_customerOf, Cond.instanceMethod yX4_customerOf, Cond.selects RX4 yX4_customerOf yX4_customerOf, Cond.code yX4_customerOf cX4_customerOf 2 (some .int), Cond.methodLink RX4 143 yX4_noReceipt, Cond.instanceMethod yX4_noReceipt, Cond.selects RX4 yX4_noReceipt yX4_noReceipt, Cond.code yX4_noReceipt cX4_noReceipt 2 (some .boolean), Cond.methodLink RL 155 yL_appliedTo, Cond.static yL_appliedTo, Cond.codeWith yL_appliedTo cL_appliedTo 5 (some .int) [(0, 10, 13, 13)], Cond.methodLink RL 71 yX3_appliedTo, Cond.instanceMethod yX3_appliedTo, Cond.selects RX3 yX3_appliedTo yX3_appliedTo, Cond.code yX3_appliedTo cX3_appliedTo 3 (some .int), Cond.methodLink RL 157 yX4_appliedTo, Cond.instanceMethod yX4_appliedTo, Cond.selects RX4 yX4_appliedTo yX4_appliedTo, Cond.code yX4_appliedTo cX4_appliedTo 3 (some .int), Cond.methodLink RL 158 yL_unapplied, Cond.static yL_unapplied, Cond.codeWith yL_unapplied cL_unapplied 4 (some .int) [(0, 9, 12, 13)], Cond.methodLink RL 74 yX3_unapplied, Cond.instanceMethod yX3_unapplied]
def wsL_law0_r24 : List Cond := [Cond.selects RX3 yX3_unapplied yX3_unapplied, Cond.code yX3_unapplied cX3_unapplied 2 (some .int), Cond.methodLink RL 160 yX4_unapplied, Cond.instanceMethod yX4_unapplied, Cond.selects RX4 yX4_unapplied yX4_unapplied, Cond.code yX4_unapplied cX4_unapplied 2 (some .int), Cond.methodLink RL 161 yL_hasBounced, Cond.static yL_hasBounced, Cond.codeWith yL_hasBounced cL_hasBounced 4 (some .int) [(0, 16, 19, 13)], Cond.methodLink RL 77 yX3_hasBounced, Cond.instanceMethod yX3_hasBounced, Cond.selects RX3 yX3_hasBounced yX3_hasBounced, Cond.code yX3_hasBounced cX3_hasBounced 2 (some .boolean), Cond.methodLink RL 163 yX4_hasBounced, Cond.instanceMethod yX4_hasBounced, Cond.selects RX4 yX4_hasBounced yX4_hasBounced, Cond.code yX4_hasBounced cX4_hasBounced 2 (some .boolean), Cond.methodLink RL 164 yX3_day, Cond.instanceMethod yX3_day, Cond.selects RX3 yX3_day yX3_day, Cond.code yX3_day cX3_day 1 (some .int), Cond.methodLink RL 167 yX4_day, Cond.instanceMethod yX4_day, Cond.selects RX4 yX4_day yX4_day]
def wsL_law0_r25 : List Cond := [Cond.code yX4_day cX4_day 1 (some .int), Cond.methodLink RL 168 yX3_received, Cond.instanceMethod yX3_received, Cond.selects RX3 yX3_received yX3_received, Cond.code yX3_received cX3_received 1 (some .int), Cond.fieldLink RX3 165 "CashAllocator$ReceiptBook" "amount" "[I", Cond.methodLink RX3 168 yX2_totalOf, Cond.instanceMethod yX2_totalOf, Cond.selects RX2 yX2_totalOf yX2_totalOf, Cond.code yX2_totalOf cX2_totalOf 4 (some .int), Cond.methodLink RL 171 yX4_received, Cond.instanceMethod yX4_received, Cond.selects RX4 yX4_received yX4_received, Cond.code yX4_received cX4_received 1 (some .int), Cond.methodLink RX4 146 yX4_all, Cond.instanceMethod yX4_all, Cond.selects RX4 yX4_all yX4_all, Cond.code yX4_all cX4_all 4 (some .int), Cond.methodLink RL 172 yX3_applied, Cond.instanceMethod yX3_applied, Cond.selects RX3 yX3_applied yX3_applied, Cond.code yX3_applied cX3_applied 1 (some .int), Cond.fieldLink RX3 172 "CashAllocator$ReceiptBook" "applied" "[I", Cond.methodLink RL 175 yX4_applied]
def wsL_law0_r26 : List Cond := [Cond.instanceMethod yX4_applied, Cond.selects RX4 yX4_applied yX4_applied, Cond.code yX4_applied cX4_applied 1 (some .int), Cond.methodLink RX4 150 yX4_allBounced, Cond.instanceMethod yX4_allBounced, Cond.selects RX4 yX4_allBounced yX4_allBounced, Cond.code yX4_allBounced cX4_allBounced 3 (some .int), Cond.methodLink RL 176 yX3_allUnapplied, Cond.instanceMethod yX3_allUnapplied, Cond.selects RX3 yX3_allUnapplied yX3_allUnapplied, Cond.code yX3_allUnapplied cX3_allUnapplied 1 (some .int), Cond.methodLink RL 179 yX4_allUnapplied, Cond.instanceMethod yX4_allUnapplied, Cond.selects RX4 yX4_allUnapplied yX4_allUnapplied, Cond.code yX4_allUnapplied cX4_allUnapplied 1 (some .int), Cond.methodLink RL 180 yX3_paidBack, Cond.instanceMethod yX3_paidBack, Cond.selects RX3 yX3_paidBack yX3_paidBack, Cond.code yX3_paidBack cX3_paidBack 1 (some .int), Cond.methodLink RL 183 yX4_paidBack, Cond.instanceMethod yX4_paidBack, Cond.selects RX4 yX4_paidBack yX4_paidBack, Cond.code yX4_paidBack cX4_paidBack 1 (some .int), Cond.methodLink RL 184 yX3_bounced]
def wsL_law0_r27 : List Cond := [Cond.instanceMethod yX3_bounced, Cond.selects RX3 yX3_bounced yX3_bounced, Cond.code yX3_bounced cX3_bounced 1 (some .int), Cond.methodLink RX3 175 yX2_bouncedTotal, Cond.instanceMethod yX2_bouncedTotal, Cond.selects RX2 yX2_bouncedTotal yX2_bouncedTotal, Cond.code yX2_bouncedTotal cX2_bouncedTotal 3 (some .int), Cond.methodLink RL 187 yX4_bounced, Cond.instanceMethod yX4_bounced, Cond.selects RX4 yX4_bounced yX4_bounced, Cond.code yX4_bounced cX4_bounced 1 (some .int)]
def wsL_law0 : List Cond := (wsL_law0_r1 ++ (wsL_law0_r2 ++ (wsL_law0_r3 ++ (wsL_law0_r4 ++ (wsL_law0_r5 ++ (wsL_law0_r6 ++ (wsL_law0_r7 ++ (wsL_law0_r8 ++ (wsL_law0_r9 ++ (wsL_law0_r10 ++ (wsL_law0_r11 ++ (wsL_law0_r12 ++ (wsL_law0_r13 ++ (wsL_law0_r14 ++ (wsL_law0_r15 ++ (wsL_law0_r16 ++ (wsL_law0_r17 ++ (wsL_law0_r18 ++ (wsL_law0_r19 ++ (wsL_law0_r20 ++ (wsL_law0_r21 ++ (wsL_law0_r22 ++ (wsL_law0_r23 ++ (wsL_law0_r24 ++ (wsL_law0_r25 ++ (wsL_law0_r26 ++ wsL_law0_r27)))))))))))))))))))))))))) ++ wsX30 ++ wsX40 ++ wsX00 ++ wsX20 ++ wsX10 ++ ([] : List Cond)
def wsL_law : List Cond := wsL_law0 ++ (vx_atS RX3 50 "java/lang/IllegalStateException" ["java/lang/RuntimeException", "java/lang/Exception"]).filter goodWord ++ (vx_atS RX3 149 "java/lang/IndexOutOfBoundsException" ["java/lang/RuntimeException", "java/lang/Exception"]).filter goodWord ++ (vx_atS RX3 154 "java/lang/IllegalArgumentException" ["java/lang/RuntimeException", "java/lang/Exception"]).filter goodWord
abbrev vwCl : List vw_C := [(RX0, TX0, 12), (RX1, TX1, 4), (RX2, TX2, 9), (RX3, TX3, 4), (RX4, TX4, 24)]

theorem nmX0 : ∀ a, a < 12 → ∀ b, b < 12 → a ≠ b → (TX0 a).2.1 ≠ (TX0 b).2.1 := by decide +kernel
theorem tyX0_ok : ∀ k, k < 12 → parseFieldDescriptor (TX0 k).2.2.1 = some (tyX0 k) := by decide +kernel
theorem nmX1 : ∀ a, a < 4 → ∀ b, b < 4 → a ≠ b → (TX1 a).2.1 ≠ (TX1 b).2.1 := by decide +kernel
theorem tyX1_ok : ∀ k, k < 4 → parseFieldDescriptor (TX1 k).2.2.1 = some (tyX1 k) := by decide +kernel
theorem nmX2 : ∀ a, a < 9 → ∀ b, b < 9 → a ≠ b → (TX2 a).2.1 ≠ (TX2 b).2.1 := by decide +kernel
theorem tyX2_ok : ∀ k, k < 9 → parseFieldDescriptor (TX2 k).2.2.1 = some (tyX2 k) := by decide +kernel
theorem nmX3 : ∀ a, a < 4 → ∀ b, b < 4 → a ≠ b → (TX3 a).2.1 ≠ (TX3 b).2.1 := by decide +kernel
theorem tyX3_ok : ∀ k, k < 4 → parseFieldDescriptor (TX3 k).2.2.1 = some (tyX3 k) := by decide +kernel
theorem nmX4 : ∀ a, a < 24 → ∀ b, b < 24 → a ≠ b → (TX4 a).2.1 ≠ (TX4 b).2.1 := by decide +kernel
theorem tyX4_ok : ∀ k, k < 24 → parseFieldDescriptor (TX4 k).2.2.1 = some (tyX4 k) := by decide +kernel
theorem nmJ0 : ∀ a, a < 0 → ∀ b, b < 0 → a ≠ b → (TJ0 a).2.1 ≠ (TJ0 b).2.1 := by decide +kernel
theorem tyJ0_ok : ∀ k, k < 0 → parseFieldDescriptor (TJ0 k).2.2.1 = some (tyJ0 k) := by decide +kernel
end
section
set_option maxRecDepth 20000 in
theorem wsL_law_in0 : ∀ w ∈ wsL_law0, w ∈ lw_tbl := fun w h => (goodIn_p wsL_law0 [47, 50, 55, 106, 148, 623, 226, 229, 301, 336, 341, 705, 709, 712, 716, 701, 348, 353, 357, 361, 365, 369, 373, 377, 381, 385, 389, 392, 396, 400, 404, 408, 412, 416, 420, 424, 428, 432, 436, 440, 720, 724, 728, 732, 736, 740, 745, 749, 753, 757, 761, 447, 451, 456, 765, 769, 465, 773, 473, 478, 777, 485, 490, 494, 498, 502, 506, 510, 781, 517, 521, 785, 531, 789, 180, 793, 797, 538, 801, 805, 546, 809, 553, 813, 560, 817, 567, 821, 574, 825, 581, 829, 588, 833, 184, 837, 597, 841, 845, 604, 849, 611, 853, 618, 857, 188, 861, 192, 196, 865, 869, 200, 873, 877, 204, 881, 208, 885, 212, 216, 889] (by decide +kernel) (by decide +kernel) w h).1
theorem wsL_law_x0 : ∀ w ∈ (vx_atS RX3 50 "java/lang/IllegalStateException" ["java/lang/RuntimeException", "java/lang/Exception"]).filter goodWord, w ∈ lw_tbl := by decide +kernel
theorem wsL_law_x1 : ∀ w ∈ (vx_atS RX3 149 "java/lang/IndexOutOfBoundsException" ["java/lang/RuntimeException", "java/lang/Exception"]).filter goodWord, w ∈ lw_tbl := by decide +kernel
theorem wsL_law_x2 : ∀ w ∈ (vx_atS RX3 154 "java/lang/IllegalArgumentException" ["java/lang/RuntimeException", "java/lang/Exception"]).filter goodWord, w ∈ lw_tbl := by decide +kernel
theorem wsL_law_in : ∀ w ∈ wsL_law, w ∈ lw_tbl := fun w h => (List.mem_append.mp h).elim (fun h => (List.mem_append.mp h).elim (fun h => (List.mem_append.mp h).elim (fun h => wsL_law_in0 w h) (fun h => wsL_law_x0 w h)) (fun h => wsL_law_x1 w h)) (fun h => wsL_law_x2 w h)
theorem inlX0 : ∀ w ∈ wsX00, w ∈ wsL_law := fun _ h => List.mem_append_left _ (List.mem_append_left _ (List.mem_append_left _ (List.mem_append_left _ (List.mem_append_left _ (List.mem_append_left _ (List.mem_append_right _ h))))))
theorem inX0 : ∀ w ∈ wsX00, w ∈ lw_tbl := fun w h => wsL_law_in w (inlX0 w h)
theorem inlX1 : ∀ w ∈ wsX10, w ∈ wsL_law := fun _ h => List.mem_append_left _ (List.mem_append_left _ (List.mem_append_left _ (List.mem_append_left _ (List.mem_append_right _ h))))
theorem inX1 : ∀ w ∈ wsX10, w ∈ lw_tbl := fun w h => wsL_law_in w (inlX1 w h)
theorem inlX2 : ∀ w ∈ wsX20, w ∈ wsL_law := fun _ h => List.mem_append_left _ (List.mem_append_left _ (List.mem_append_left _ (List.mem_append_left _ (List.mem_append_left _ (List.mem_append_right _ h)))))
theorem inX2 : ∀ w ∈ wsX20, w ∈ lw_tbl := fun w h => wsL_law_in w (inlX2 w h)
theorem inlX3 : ∀ w ∈ wsX30, w ∈ wsL_law := fun _ h => List.mem_append_left _ (List.mem_append_left _ (List.mem_append_left _ (List.mem_append_left _ (List.mem_append_left _ (List.mem_append_left _ (List.mem_append_left _ (List.mem_append_left _ (List.mem_append_right _ h))))))))
theorem inX3 : ∀ w ∈ wsX30, w ∈ lw_tbl := fun w h => wsL_law_in w (inlX3 w h)
theorem inlX4 : ∀ w ∈ wsX40, w ∈ wsL_law := fun _ h => List.mem_append_left _ (List.mem_append_left _ (List.mem_append_left _ (List.mem_append_left _ (List.mem_append_left _ (List.mem_append_left _ (List.mem_append_left _ (List.mem_append_right _ h)))))))
theorem inX4 : ∀ w ∈ wsX40, w ∈ lw_tbl := fun w h => wsL_law_in w (inlX4 w h)
theorem inJ0 : ∀ w ∈ wsJ00, w ∈ lw_tbl := by decide +kernel
set_option maxRecDepth 20000 in
theorem ggX0_isOpenFor_X0_openSum : GoodIn wsX0_isOpenFor wsX0_openSum := goodIn_r _ [6, 7, 8, 9, 10, 11, 12, 13, 14, 15, 16, 17, 18, 19, 20, 21, 22, 23] (by rfl) (by rfl)
set_option maxRecDepth 20000 in
theorem gX0_isOpenFor_X0_openSum : GoodIn wsX0_isOpenFor (wsV RX0 49 RX0 yX0_openSum wsX0_openSum) := goodIn_app (goodIn_of _ (by decide +kernel)) ggX0_isOpenFor_X0_openSum
set_option maxRecDepth 20000 in
theorem ggX0_allowsDiscount_X0_openSum : GoodIn wsX0_allowsDiscount wsX0_openSum := goodIn_r _ [7, 1, 8, 9, 10, 11, 12, 13, 14, 15, 16, 17, 18, 19, 20, 21, 22, 23] (by rfl) (by rfl)
set_option maxRecDepth 20000 in
theorem gX0_allowsDiscount_X0_openSum : GoodIn wsX0_allowsDiscount (wsV RX0 49 RX0 yX0_openSum wsX0_openSum) := goodIn_app (goodIn_of _ (by decide +kernel)) ggX0_allowsDiscount_X0_openSum
set_option maxRecDepth 20000 in
theorem ggX0_dueOn_X0_openSum : GoodIn wsX0_dueOn wsX0_openSum := goodIn_r _ [6, 7, 8, 9, 10, 11, 17, 18, 19, 20, 21, 22, 23, 24, 25, 26, 27, 28] (by rfl) (by rfl)
set_option maxRecDepth 20000 in
theorem gX0_dueOn_X0_openSum : GoodIn wsX0_dueOn (wsV RX0 49 RX0 yX0_openSum wsX0_openSum) := goodIn_app (goodIn_of _ (by decide +kernel)) ggX0_dueOn_X0_openSum
set_option maxRecDepth 20000 in
theorem ggX0_dueOn_X0_allowsDiscount : GoodIn wsX0_dueOn wsX0_allowsDiscount := goodIn_r _ [15, 7, 16, 2, 3, 4, 5, 6, 8, 9, 10, 11, 17, 18, 19, 20, 21, 22, 23, 24, 25, 26, 27, 28] (by rfl) (by rfl)
set_option maxRecDepth 20000 in
theorem gX0_dueOn_X0_allowsDiscount : GoodIn wsX0_dueOn (wsV RX0 53 RX0 yX0_allowsDiscount wsX0_allowsDiscount) := goodIn_app (goodIn_of _ (by decide +kernel)) ggX0_dueOn_X0_allowsDiscount
set_option maxRecDepth 20000 in
theorem ggX0_customerNamedBy_X0_openSum : GoodIn wsX0_customerNamedBy wsX0_openSum := goodIn_r _ [8, 9, 10, 11, 12, 13, 14, 15, 16, 17, 18, 19, 20, 21, 22, 23, 24, 25] (by rfl) (by rfl)
set_option maxRecDepth 20000 in
theorem gX0_customerNamedBy_X0_openSum : GoodIn wsX0_customerNamedBy (wsV RX0 49 RX0 yX0_openSum wsX0_openSum) := goodIn_app (goodIn_of _ (by decide +kernel)) ggX0_customerNamedBy_X0_openSum
set_option maxRecDepth 20000 in
theorem ggX0_takeDiscount_X0_allowsDiscount : GoodIn wsX0_takeDiscount wsX0_allowsDiscount := goodIn_r _ [8, 9, 10, 11, 12, 13, 7, 14, 15, 1, 16, 17, 18, 19, 20, 21, 22, 23, 24, 25, 26, 27, 28, 29] (by rfl) (by rfl)
set_option maxRecDepth 20000 in
theorem gX0_takeDiscount_X0_allowsDiscount : GoodIn wsX0_takeDiscount (wsV RX0 53 RX0 yX0_allowsDiscount wsX0_allowsDiscount) := goodIn_app (goodIn_of _ (by decide +kernel)) ggX0_takeDiscount_X0_allowsDiscount
set_option maxRecDepth 20000 in
theorem ggX0_disputeRest_X0_openSum : GoodIn wsX0_disputeRest wsX0_openSum := goodIn_r _ [7, 8, 9, 10, 1, 11, 12, 13, 14, 15, 16, 17, 18, 19, 20, 21, 22, 23] (by rfl) (by rfl)
set_option maxRecDepth 20000 in
theorem gX0_disputeRest_X0_openSum : GoodIn wsX0_disputeRest (wsV RX0 49 RX0 yX0_openSum wsX0_openSum) := goodIn_app (goodIn_of _ (by decide +kernel)) ggX0_disputeRest_X0_openSum
set_option maxRecDepth 20000 in
theorem ggX0_undo_X0_endDispute : GoodIn wsX0_undo wsX0_endDispute := goodIn_r _ [9, 10, 11, 4, 12, 13, 14, 15, 16, 17, 18, 19, 20, 21, 22, 23] (by rfl) (by rfl)
set_option maxRecDepth 20000 in
theorem gX0_undo_X0_endDispute : GoodIn wsX0_undo (wsV RX0 57 RX0 yX0_endDispute wsX0_endDispute) := goodIn_app (goodIn_of _ (by decide +kernel)) ggX0_undo_X0_endDispute
set_option maxRecDepth 20000 in
theorem ggX1_choose_X1_chooseOne : GoodIn wsX1_choose wsX1_chooseOne := goodIn_r _ [5, 6, 7, 8, 9, 10, 4, 11, 12, 13, 22, 23, 24, 25] (by rfl) (by rfl)
set_option maxRecDepth 20000 in
theorem gX1_choose_X1_chooseOne : GoodIn wsX1_choose (wsV RX1 25 RX1 yX1_chooseOne wsX1_chooseOne) := goodIn_app (goodIn_of _ (by decide +kernel)) ggX1_choose_X1_chooseOne
set_option maxRecDepth 20000 in
theorem ggX1_choose_X1_chooseTwo : GoodIn wsX1_choose wsX1_chooseTwo := goodIn_r _ [17, 12, 13, 6, 7, 8, 9, 10, 4, 11, 22, 23, 24, 25] (by rfl) (by rfl)
set_option maxRecDepth 20000 in
theorem gX1_choose_X1_chooseTwo : GoodIn wsX1_choose (wsV RX1 29 RX1 yX1_chooseTwo wsX1_chooseTwo) := goodIn_app (goodIn_of _ (by decide +kernel)) ggX1_choose_X1_chooseTwo
set_option maxRecDepth 20000 in
theorem ggX1_choose_X1_chooseThree : GoodIn wsX1_choose wsX1_chooseThree := goodIn_r _ [21, 12, 13, 6, 7, 8, 9, 10, 4, 11, 22, 23, 24, 25] (by rfl) (by rfl)
set_option maxRecDepth 20000 in
theorem gX1_choose_X1_chooseThree : GoodIn wsX1_choose (wsV RX1 32 RX1 yX1_chooseThree wsX1_chooseThree) := goodIn_app (goodIn_of _ (by decide +kernel)) ggX1_choose_X1_chooseThree
set_option maxRecDepth 20000 in
theorem ggX1_chooseOne_X1_find : GoodIn wsX1_chooseOne wsX1_find := goodIn_r _ [7, 8, 9, 10, 11, 12, 13] (by rfl) (by rfl)
set_option maxRecDepth 20000 in
theorem gX1_chooseOne_X1_find : GoodIn wsX1_chooseOne (wsV RX1 36 RX1 yX1_find wsX1_find) := goodIn_app (goodIn_of _ (by decide +kernel)) ggX1_chooseOne_X1_find
set_option maxRecDepth 20000 in
theorem ggX1_chooseTwo_X1_find : GoodIn wsX1_chooseTwo wsX1_find := goodIn_r _ [9, 1, 2, 10, 11, 12, 13] (by rfl) (by rfl)
set_option maxRecDepth 20000 in
theorem gX1_chooseTwo_X1_find : GoodIn wsX1_chooseTwo (wsV RX1 36 RX1 yX1_find wsX1_find) := goodIn_app (goodIn_of _ (by decide +kernel)) ggX1_chooseTwo_X1_find
set_option maxRecDepth 20000 in
theorem ggX1_chooseThree_X1_find : GoodIn wsX1_chooseThree wsX1_find := goodIn_r _ [9, 1, 2, 10, 11, 12, 13] (by rfl) (by rfl)
set_option maxRecDepth 20000 in
theorem gX1_chooseThree_X1_find : GoodIn wsX1_chooseThree (wsV RX1 36 RX1 yX1_find wsX1_find) := goodIn_app (goodIn_of _ (by decide +kernel)) ggX1_chooseThree_X1_find
set_option maxRecDepth 20000 in
theorem ggX2_hasPaid_X2_cell : GoodIn wsX2_hasPaid wsX2_cell := goodIn_r _ [5] (by rfl) (by rfl)
set_option maxRecDepth 20000 in
theorem gX2_hasPaid_X2_cell : GoodIn wsX2_hasPaid (va_wsS RX2 41 yX2_cell wsX2_cell) := goodIn_app (goodIn_of _ (by decide +kernel)) ggX2_hasPaid_X2_cell
set_option maxRecDepth 20000 in
theorem ggX2_paidOf_X2_cell : GoodIn wsX2_paidOf wsX2_cell := goodIn_r _ [5] (by rfl) (by rfl)
set_option maxRecDepth 20000 in
theorem gX2_paidOf_X2_cell : GoodIn wsX2_paidOf (va_wsS RX2 41 yX2_cell wsX2_cell) := goodIn_app (goodIn_of _ (by decide +kernel)) ggX2_paidOf_X2_cell
set_option maxRecDepth 20000 in
theorem ggX2_addPayment_X2_cell : GoodIn wsX2_addPayment wsX2_cell := goodIn_r _ [8] (by rfl) (by rfl)
set_option maxRecDepth 20000 in
theorem gX2_addPayment_X2_cell : GoodIn wsX2_addPayment (va_wsS RX2 41 yX2_cell wsX2_cell) := goodIn_app (goodIn_of _ (by decide +kernel)) ggX2_addPayment_X2_cell
set_option maxRecDepth 20000 in
theorem ggX2_dropPayment_X2_cell : GoodIn wsX2_dropPayment wsX2_cell := goodIn_r _ [7] (by rfl) (by rfl)
set_option maxRecDepth 20000 in
theorem gX2_dropPayment_X2_cell : GoodIn wsX2_dropPayment (va_wsS RX2 41 yX2_cell wsX2_cell) := goodIn_app (goodIn_of _ (by decide +kernel)) ggX2_dropPayment_X2_cell
set_option maxRecDepth 20000 in
theorem ggX3_init_X0_init : GoodIn wsX3_init wsX0_init := goodIn_r _ [18, 19, 2, 3, 20, 21, 22, 23, 24, 25, 26, 27, 28, 29, 30, 31, 50, 51, 52, 53, 54, 55, 56, 57, 58, 59, 60, 61] (by rfl) (by rfl)
set_option maxRecDepth 20000 in
theorem gX3_init_X0_init_n9 : GoodIn wsX3_init (wsX0_init) := ggX3_init_X0_init
set_option maxRecDepth 20000 in
theorem ggX3_init_X2_init : GoodIn wsX3_init wsX2_init := goodIn_r _ [33, 34, 2, 3, 20, 35, 36, 37, 38, 39, 40, 41, 42, 43, 66, 67, 68, 69, 70, 71, 72, 73, 74] (by rfl) (by rfl)
set_option maxRecDepth 20000 in
theorem gX3_init_X2_init_n18 : GoodIn wsX3_init (wsX2_init) := ggX3_init_X2_init
set_option maxRecDepth 20000 in
theorem ggX3_init_X1_init : GoodIn wsX3_init wsX1_init := goodIn_r _ [45, 46, 2, 3, 20, 47, 48, 49, 75, 76, 77, 78] (by rfl) (by rfl)
set_option maxRecDepth 20000 in
theorem gX3_init_X1_init_n25 : GoodIn wsX3_init (wsX1_init) := ggX3_init_X1_init
set_option maxRecDepth 20000 in
theorem ggX3_bill_X3_requireCustomer : GoodIn wsX3_bill wsX3_requireCustomer := goodIn_ca (goodIn_r _ [10, 11, 12] (by rfl) (by rfl)) (goodIn_sub (fun _ h => List.mem_cons_of_mem _ (List.mem_append_left _ (List.mem_append_right _ h))) (by rfl))
set_option maxRecDepth 20000 in
theorem gX3_bill_X3_requireCustomer : GoodIn wsX3_bill (va_wsS RX3 34 yX3_requireCustomer wsX3_requireCustomer) := goodIn_app (goodIn_of _ (by decide +kernel)) ggX3_bill_X3_requireCustomer
set_option maxRecDepth 20000 in
theorem ggX3_bill_X3_requireWithin : GoodIn wsX3_bill wsX3_requireWithin := goodIn_ca (goodIn_r _ [15, 16, 17] (by rfl) (by rfl)) (goodIn_sub (fun _ h => List.mem_cons_of_mem _ (List.mem_append_right _ h)) (by rfl))
set_option maxRecDepth 20000 in
theorem gX3_bill_X3_requireWithin : GoodIn wsX3_bill (va_wsS RX3 39 yX3_requireWithin wsX3_requireWithin) := goodIn_app (goodIn_of _ (by decide +kernel)) ggX3_bill_X3_requireWithin
set_option maxRecDepth 20000 in
theorem ggX3_bill_X3_discountOf : GoodIn wsX3_bill wsX3_discountOf := goodIn_r _ [20, 21] (by rfl) (by rfl)
set_option maxRecDepth 20000 in
theorem gX3_bill_X3_discountOf : GoodIn wsX3_bill (va_wsS RX3 53 yX3_discountOf wsX3_discountOf) := goodIn_app (goodIn_of _ (by decide +kernel)) ggX3_bill_X3_discountOf
set_option maxRecDepth 20000 in
theorem ggX3_bill_X0_add : GoodIn wsX3_bill wsX0_add := goodIn_r _ [26, 27, 28, 29, 30, 31, 32, 33, 34, 39, 40, 41, 42, 43, 44, 45, 46, 47, 48, 49, 50] (by rfl) (by rfl)
set_option maxRecDepth 20000 in
theorem gX3_bill_X0_add : GoodIn wsX3_bill (wsV RX3 57 RX0 yX0_add wsX0_add) := goodIn_app (goodIn_of _ (by decide +kernel)) ggX3_bill_X0_add
set_option maxRecDepth 20000 in
theorem ggX3_receive_X3_requireCustomer : GoodIn wsX3_receive wsX3_requireCustomer := goodIn_ca (goodIn_r _ [9, 10, 11] (by rfl) (by rfl)) (goodIn_sub (fun _ h => List.mem_cons_of_mem _ (List.mem_append_left _ (List.mem_append_right _ h))) (by rfl))
set_option maxRecDepth 20000 in
theorem gX3_receive_X3_requireCustomer : GoodIn wsX3_receive (va_wsS RX3 34 yX3_requireCustomer wsX3_requireCustomer) := goodIn_app (goodIn_of _ (by decide +kernel)) ggX3_receive_X3_requireCustomer
set_option maxRecDepth 20000 in
theorem ggX3_receive_X3_requireWithin : GoodIn wsX3_receive wsX3_requireWithin := goodIn_ca (goodIn_r _ [14, 15, 16] (by rfl) (by rfl)) (goodIn_sub (fun _ h => List.mem_cons_of_mem _ (List.mem_append_right _ h)) (by rfl))
set_option maxRecDepth 20000 in
theorem gX3_receive_X3_requireWithin : GoodIn wsX3_receive (va_wsS RX3 39 yX3_requireWithin wsX3_requireWithin) := goodIn_app (goodIn_of _ (by decide +kernel)) ggX3_receive_X3_requireWithin
set_option maxRecDepth 20000 in
theorem ggX3_receive_X2_add : GoodIn wsX3_receive wsX2_add := goodIn_r _ [21, 22, 23, 24, 25, 147, 148, 149, 150, 151, 152, 153, 154, 155] (by rfl) (by rfl)
set_option maxRecDepth 20000 in
theorem gX3_receive_X2_add : GoodIn wsX3_receive (wsV RX3 64 RX2 yX2_add wsX2_add) := goodIn_app (goodIn_of _ (by decide +kernel)) ggX3_receive_X2_add
set_option maxRecDepth 20000 in
theorem ggX3_receive_X3_payNamedBills : GoodIn wsX3_receive wsX3_payNamedBills := goodIn_r _ [29, 4, 30, 31, 32, 33, 34, 35, 36, 37, 38, 39, 40, 41, 42, 43, 44, 45, 46, 47, 48, 49, 50, 51, 52, 53, 54, 55, 56, 57, 58, 8, 59, 60, 61, 62, 63, 64, 65, 66, 67, 68, 69, 70, 71, 72, 73, 74, 75, 76, 77, 78, 79, 20, 80, 81, 82, 83, 25, 84, 85, 86, 87, 88, 89, 90, 91, 143, 144, 145, 146, 147, 148, 149, 150, 151, 152, 153, 154, 155, 156, 157, 158, 159, 160, 161, 162, 163, 164, 165, 166, 167] (by rfl) (by rfl)
set_option maxRecDepth 20000 in
theorem gX3_receive_X3_payNamedBills : GoodIn wsX3_receive (wsV RX3 66 RX3 yX3_payNamedBills wsX3_payNamedBills) := goodIn_app (goodIn_of _ (by decide +kernel)) ggX3_receive_X3_payNamedBills
set_option maxRecDepth 20000 in
theorem ggX3_receive_X3_payOtherBills : GoodIn wsX3_receive wsX3_payOtherBills := goodIn_r _ [95, 4, 30, 33, 96, 97, 98, 8, 99, 100, 101, 31, 32, 102, 103, 104, 105, 60, 106, 107, 108, 109, 110, 111, 112, 52, 53, 54, 38, 55, 42, 43, 44, 45, 46, 47, 48, 49, 50, 51, 62, 63, 64, 65, 66, 67, 68, 69, 70, 71, 113, 114, 115, 116, 117, 118, 119, 120, 121, 122, 123, 124, 125, 126, 127, 128, 129, 130, 131, 132, 133, 134, 135, 136, 137, 138, 56, 57, 58, 59, 61, 72, 73, 74, 75, 76, 77, 78, 79, 20, 80, 81, 82, 83, 25, 84, 85, 86, 139, 140, 141, 142, 143, 144, 145, 146, 147, 148, 149, 150, 151, 152, 153, 154, 155, 168, 169, 170, 171, 156, 157, 158, 159, 160, 161, 162, 163, 164, 165, 166, 167] (by rfl) (by rfl)
set_option maxRecDepth 20000 in
theorem gX3_receive_X3_payOtherBills : GoodIn wsX3_receive (wsV RX3 70 RX3 yX3_payOtherBills wsX3_payOtherBills) := goodIn_app (goodIn_of _ (by decide +kernel)) ggX3_receive_X3_payOtherBills
set_option maxRecDepth 20000 in
theorem ggX3_assign_X3_requireReceipt : GoodIn wsX3_assign wsX3_requireReceipt := goodIn_ca (goodIn_r _ [10, 11, 12, 3, 13, 123, 124, 125, 126, 127, 128, 129, 130, 131, 132, 133, 134, 135] (by rfl) (by rfl)) (goodIn_sub (fun _ h => List.mem_cons_of_mem _ (List.mem_append_right _ h)) (by rfl))
set_option maxRecDepth 20000 in
theorem gX3_assign_X3_requireReceipt : GoodIn wsX3_assign (wsV RX3 73 RX3 yX3_requireReceipt wsX3_requireReceipt) := goodIn_app (goodIn_of _ (by decide +kernel)) ggX3_assign_X3_requireReceipt
set_option maxRecDepth 20000 in
theorem ggX3_assign_X3_requireCustomer : GoodIn wsX3_assign wsX3_requireCustomer := goodIn_ca (goodIn_r _ [16, 11, 12] (by rfl) (by rfl)) (goodIn_sub (fun _ h => List.mem_cons_of_mem _ (List.mem_append_right _ h)) (by rfl))
set_option maxRecDepth 20000 in
theorem gX3_assign_X3_requireCustomer : GoodIn wsX3_assign (va_wsS RX3 34 yX3_requireCustomer wsX3_requireCustomer) := goodIn_app (goodIn_of _ (by decide +kernel)) ggX3_assign_X3_requireCustomer
set_option maxRecDepth 20000 in
theorem ggX3_assign_X3_requireNotBounced : GoodIn wsX3_assign wsX3_requireNotBounced := goodIn_ca (goodIn_r _ [20, 1, 2, 3, 21, 123, 124, 125, 126, 127, 128, 129, 130, 131, 132, 133, 134, 135] (by rfl) (by rfl)) (goodIn_sub (fun _ h => List.mem_cons_of_mem _ (List.mem_append_left _ (List.mem_append_right _ h))) (by rfl))
set_option maxRecDepth 20000 in
theorem gX3_assign_X3_requireNotBounced : GoodIn wsX3_assign (wsV RX3 76 RX3 yX3_requireNotBounced wsX3_requireNotBounced) := goodIn_app (goodIn_of _ (by decide +kernel)) ggX3_assign_X3_requireNotBounced
set_option maxRecDepth 20000 in
theorem ggX3_assign_X3_payOtherBills : GoodIn wsX3_assign wsX3_payOtherBills := goodIn_r _ [25, 3, 4, 5, 26, 27, 28, 9, 29, 30, 31, 32, 33, 34, 35, 36, 37, 38, 39, 40, 41, 42, 43, 44, 45, 46, 47, 48, 49, 50, 51, 52, 53, 54, 55, 56, 57, 58, 59, 60, 61, 62, 63, 64, 65, 66, 67, 68, 69, 70, 71, 72, 73, 74, 75, 76, 77, 78, 79, 80, 81, 82, 83, 84, 85, 86, 87, 88, 89, 90, 91, 92, 93, 94, 95, 96, 97, 98, 99, 100, 101, 102, 103, 104, 105, 106, 107, 108, 109, 110, 111, 112, 113, 114, 115, 116, 117, 118, 119, 120, 121, 122, 123, 124, 125, 126, 127, 128, 129, 130, 131, 132, 133, 134, 135, 136, 137, 138, 139, 140, 141, 142, 143, 144, 145, 146, 147, 148, 149, 150, 151] (by rfl) (by rfl)
set_option maxRecDepth 20000 in
theorem gX3_assign_X3_payOtherBills : GoodIn wsX3_assign (wsV RX3 70 RX3 yX3_payOtherBills wsX3_payOtherBills) := goodIn_app (goodIn_of _ (by decide +kernel)) ggX3_assign_X3_payOtherBills
set_option maxRecDepth 20000 in
theorem ggX3_apply_X3_requireReceipt : GoodIn wsX3_apply wsX3_requireReceipt := goodIn_ca (goodIn_r _ [10, 11, 12, 3, 13, 120, 121, 122, 123, 124, 125, 126, 127, 128, 129, 130, 131, 132] (by rfl) (by rfl)) (goodIn_sub (fun _ h => List.mem_cons_of_mem _ (List.mem_append_right _ h)) (by rfl))
set_option maxRecDepth 20000 in
theorem gX3_apply_X3_requireReceipt : GoodIn wsX3_apply (wsV RX3 73 RX3 yX3_requireReceipt wsX3_requireReceipt) := goodIn_app (goodIn_of _ (by decide +kernel)) ggX3_apply_X3_requireReceipt
set_option maxRecDepth 20000 in
theorem ggX3_apply_X3_requireNotBounced : GoodIn wsX3_apply wsX3_requireNotBounced := goodIn_ca (goodIn_r _ [17, 1, 2, 3, 18, 120, 121, 122, 123, 124, 125, 126, 127, 128, 129, 130, 131, 132] (by rfl) (by rfl)) (goodIn_sub (fun _ h => List.mem_cons_of_mem _ (List.mem_append_left _ (List.mem_append_right _ h))) (by rfl))
set_option maxRecDepth 20000 in
theorem gX3_apply_X3_requireNotBounced : GoodIn wsX3_apply (wsV RX3 76 RX3 yX3_requireNotBounced wsX3_requireNotBounced) := goodIn_app (goodIn_of _ (by decide +kernel)) ggX3_apply_X3_requireNotBounced
set_option maxRecDepth 20000 in
theorem ggX3_apply_X3_payOtherBills : GoodIn wsX3_apply wsX3_payOtherBills := goodIn_r _ [22, 3, 4, 5, 23, 24, 25, 9, 26, 27, 28, 29, 30, 31, 32, 33, 34, 35, 36, 37, 38, 39, 40, 41, 42, 43, 44, 45, 46, 47, 48, 49, 50, 51, 52, 53, 54, 55, 56, 57, 58, 59, 60, 61, 62, 63, 64, 65, 66, 67, 68, 69, 70, 71, 72, 73, 74, 75, 76, 77, 78, 79, 80, 81, 82, 83, 84, 85, 86, 87, 88, 89, 90, 91, 92, 93, 94, 95, 96, 97, 98, 99, 100, 101, 102, 103, 104, 105, 106, 107, 108, 109, 110, 111, 112, 113, 114, 115, 116, 117, 118, 119, 120, 121, 122, 123, 124, 125, 126, 127, 128, 129, 130, 131, 132, 133, 134, 135, 136, 137, 138, 139, 140, 141, 142, 143, 144, 145, 146, 147, 148] (by rfl) (by rfl)
set_option maxRecDepth 20000 in
theorem gX3_apply_X3_payOtherBills : GoodIn wsX3_apply (wsV RX3 70 RX3 yX3_payOtherBills wsX3_payOtherBills) := goodIn_app (goodIn_of _ (by decide +kernel)) ggX3_apply_X3_payOtherBills
set_option maxRecDepth 20000 in
theorem ggX3_payBack_X3_requireReceipt : GoodIn wsX3_payBack wsX3_requireReceipt := goodIn_ca (goodIn_r _ [9, 10, 11, 3, 12, 25, 26, 27, 28, 29, 30, 31, 32, 33, 34, 35, 36, 37] (by rfl) (by rfl)) (goodIn_sub (fun _ h => List.mem_cons_of_mem _ (List.mem_append_right _ h)) (by rfl))
set_option maxRecDepth 20000 in
theorem gX3_payBack_X3_requireReceipt : GoodIn wsX3_payBack (wsV RX3 73 RX3 yX3_requireReceipt wsX3_requireReceipt) := goodIn_app (goodIn_of _ (by decide +kernel)) ggX3_payBack_X3_requireReceipt
set_option maxRecDepth 20000 in
theorem ggX3_payBack_X3_requireNotBounced : GoodIn wsX3_payBack wsX3_requireNotBounced := goodIn_ca (goodIn_r _ [16, 1, 2, 3, 17, 25, 26, 27, 28, 29, 30, 31, 32, 33, 34, 35, 36, 37] (by rfl) (by rfl)) (goodIn_sub (fun _ h => List.mem_cons_of_mem _ (List.mem_append_left _ (List.mem_append_right _ h))) (by rfl))
set_option maxRecDepth 20000 in
theorem gX3_payBack_X3_requireNotBounced : GoodIn wsX3_payBack (wsV RX3 76 RX3 yX3_requireNotBounced wsX3_requireNotBounced) := goodIn_app (goodIn_of _ (by decide +kernel)) ggX3_payBack_X3_requireNotBounced
set_option maxRecDepth 20000 in
theorem ggX3_payBack_X2_payBackRest : GoodIn wsX3_payBack wsX2_payBackRest := goodIn_r _ [22, 23, 24, 29, 30, 31, 32, 33, 34, 35, 36, 37] (by rfl) (by rfl)
set_option maxRecDepth 20000 in
theorem gX3_payBack_X2_payBackRest : GoodIn wsX3_payBack (wsV RX3 92 RX2 yX2_payBackRest wsX2_payBackRest) := goodIn_app (goodIn_of _ (by decide +kernel)) ggX3_payBack_X2_payBackRest
set_option maxRecDepth 20000 in
theorem ggX3_bounce_X3_requireReceipt : GoodIn wsX3_bounce wsX3_requireReceipt := goodIn_ca (goodIn_r _ [11, 12, 13, 3, 14, 60, 61, 62, 63, 64, 65, 66, 67, 68, 69, 70, 71, 72] (by rfl) (by rfl)) (goodIn_sub (fun _ h => List.mem_cons_of_mem _ (List.mem_append_right _ h)) (by rfl))
set_option maxRecDepth 20000 in
theorem gX3_bounce_X3_requireReceipt : GoodIn wsX3_bounce (wsV RX3 73 RX3 yX3_requireReceipt wsX3_requireReceipt) := goodIn_app (goodIn_of _ (by decide +kernel)) ggX3_bounce_X3_requireReceipt
set_option maxRecDepth 20000 in
theorem ggX3_bounce_X3_requireNotBounced : GoodIn wsX3_bounce wsX3_requireNotBounced := goodIn_ca (goodIn_r _ [18, 1, 2, 3, 19, 60, 61, 62, 63, 64, 65, 66, 67, 68, 69, 70, 71, 72] (by rfl) (by rfl)) (goodIn_sub (fun _ h => List.mem_cons_of_mem _ (List.mem_append_left _ (List.mem_append_right _ h))) (by rfl))
set_option maxRecDepth 20000 in
theorem gX3_bounce_X3_requireNotBounced : GoodIn wsX3_bounce (wsV RX3 76 RX3 yX3_requireNotBounced wsX3_requireNotBounced) := goodIn_app (goodIn_of _ (by decide +kernel)) ggX3_bounce_X3_requireNotBounced
set_option maxRecDepth 20000 in
theorem ggX3_bounce_X2_hasPaid : GoodIn wsX3_bounce wsX2_hasPaid := goodIn_r _ [24, 25, 26, 27, 23, 28, 64, 65, 66, 67, 68, 69, 70, 71, 72] (by rfl) (by rfl)
set_option maxRecDepth 20000 in
theorem gX3_bounce_X2_hasPaid : GoodIn wsX3_bounce (wsV RX3 101 RX2 yX2_hasPaid wsX2_hasPaid) := goodIn_app (goodIn_of _ (by decide +kernel)) ggX3_bounce_X2_hasPaid
set_option maxRecDepth 20000 in
theorem ggX3_bounce_X2_paidOf : GoodIn wsX3_bounce wsX2_paidOf := goodIn_r _ [32, 33, 26, 27, 23, 28, 64, 65, 66, 67, 68, 69, 70, 71, 72] (by rfl) (by rfl)
set_option maxRecDepth 20000 in
theorem gX3_bounce_X2_paidOf : GoodIn wsX3_bounce (wsV RX3 105 RX2 yX2_paidOf wsX2_paidOf) := goodIn_app (goodIn_of _ (by decide +kernel)) ggX3_bounce_X2_paidOf
set_option maxRecDepth 20000 in
theorem ggX3_bounce_X0_undo : GoodIn wsX3_bounce wsX0_undo := goodIn_r _ [38, 39, 40, 41, 42, 43, 44, 45, 37, 46, 47, 48, 73, 74, 75, 76, 77, 78, 79, 80, 81, 82, 83, 84] (by rfl) (by rfl)
set_option maxRecDepth 20000 in
theorem gX3_bounce_X0_undo : GoodIn wsX3_bounce (wsV RX3 108 RX0 yX0_undo wsX0_undo) := goodIn_app (goodIn_of _ (by decide +kernel)) ggX3_bounce_X0_undo
set_option maxRecDepth 20000 in
theorem ggX3_bounce_X2_dropPayment : GoodIn wsX3_bounce wsX2_dropPayment := goodIn_r _ [52, 53, 33, 25, 26, 27, 23, 28, 64, 65, 66, 67, 68, 69, 70, 71, 72] (by rfl) (by rfl)
set_option maxRecDepth 20000 in
theorem gX3_bounce_X2_dropPayment : GoodIn wsX3_bounce (wsV RX3 111 RX2 yX2_dropPayment wsX2_dropPayment) := goodIn_app (goodIn_of _ (by decide +kernel)) ggX3_bounce_X2_dropPayment
set_option maxRecDepth 20000 in
theorem ggX3_bounce_X2_markBounced : GoodIn wsX3_bounce wsX2_markBounced := goodIn_r _ [57, 58, 59, 64, 65, 66, 67, 68, 69, 70, 71, 72] (by rfl) (by rfl)
set_option maxRecDepth 20000 in
theorem gX3_bounce_X2_markBounced : GoodIn wsX3_bounce (wsV RX3 114 RX2 yX2_markBounced wsX2_markBounced) := goodIn_app (goodIn_of _ (by decide +kernel)) ggX3_bounce_X2_markBounced
set_option maxRecDepth 20000 in
theorem ggX3_settle_X3_requireBill : GoodIn wsX3_settle wsX3_requireBill := goodIn_ca (goodIn_r _ [9, 10, 11, 3, 12, 21, 22, 23, 24, 25, 26, 27, 28, 29, 30, 31, 32, 33, 34, 35, 36] (by rfl) (by rfl)) (goodIn_sub (fun _ h => List.mem_cons_of_mem _ (List.mem_append_right _ h)) (by rfl))
set_option maxRecDepth 20000 in
theorem gX3_settle_X3_requireBill : GoodIn wsX3_settle (wsV RX3 117 RX3 yX3_requireBill wsX3_requireBill) := goodIn_app (goodIn_of _ (by decide +kernel)) ggX3_settle_X3_requireBill
set_option maxRecDepth 20000 in
theorem ggX3_settle_X0_endDispute : GoodIn wsX3_settle wsX0_endDispute := goodIn_r _ [17, 18, 19, 20, 25, 26, 27, 28, 29, 30, 31, 32, 33, 34, 35, 36] (by rfl) (by rfl)
set_option maxRecDepth 20000 in
theorem gX3_settle_X0_endDispute : GoodIn wsX3_settle (wsV RX3 125 RX0 yX0_endDispute wsX0_endDispute) := goodIn_app (goodIn_of _ (by decide +kernel)) ggX3_settle_X0_endDispute
set_option maxRecDepth 20000 in
theorem ggX3_advance_X3_requireWithin : GoodIn wsX3_advance wsX3_requireWithin := goodIn_ca (goodIn_r _ [5, 6, 7] (by rfl) (by rfl)) (goodIn_sub (fun _ h => List.mem_cons_of_mem _ (List.mem_append_right _ h)) (by rfl))
set_option maxRecDepth 20000 in
theorem gX3_advance_X3_requireWithin : GoodIn wsX3_advance (va_wsS RX3 39 yX3_requireWithin wsX3_requireWithin) := goodIn_app (goodIn_of _ (by decide +kernel)) ggX3_advance_X3_requireWithin
set_option maxRecDepth 20000 in
theorem ggX3_open_X3_requireBill : GoodIn wsX3_open wsX3_requireBill := goodIn_ca (goodIn_r _ [6, 7, 8, 1, 9, 20, 21, 22, 23, 24, 25, 26, 27, 28, 29, 30, 31, 32, 33, 34, 35] (by rfl) (by rfl)) (goodIn_sub (fun _ h => List.mem_cons_of_mem _ (List.mem_append_right _ h)) (by rfl))
set_option maxRecDepth 20000 in
theorem gX3_open_X3_requireBill : GoodIn wsX3_open (wsV RX3 117 RX3 yX3_requireBill wsX3_requireBill) := goodIn_app (goodIn_of _ (by decide +kernel)) ggX3_open_X3_requireBill
set_option maxRecDepth 20000 in
theorem ggX3_open_X0_openSum : GoodIn wsX3_open wsX0_openSum := goodIn_r _ [14, 15, 16, 17, 18, 19, 24, 25, 26, 27, 28, 29, 30, 31, 32, 33, 34, 35] (by rfl) (by rfl)
set_option maxRecDepth 20000 in
theorem gX3_open_X0_openSum : GoodIn wsX3_open (wsV RX3 129 RX0 yX0_openSum wsX0_openSum) := goodIn_app (goodIn_of _ (by decide +kernel)) ggX3_open_X0_openSum
set_option maxRecDepth 20000 in
theorem ggX3_due_X3_requireBill : GoodIn wsX3_due wsX3_requireBill := goodIn_ca (goodIn_r _ [7, 8, 9, 1, 10, 31, 32, 33, 34, 35, 36, 37, 38, 39, 40, 41, 42, 43, 44, 45, 46] (by rfl) (by rfl)) (goodIn_sub (fun _ h => List.mem_cons_of_mem _ (List.mem_append_right _ h)) (by rfl))
set_option maxRecDepth 20000 in
theorem gX3_due_X3_requireBill : GoodIn wsX3_due (wsV RX3 117 RX3 yX3_requireBill wsX3_requireBill) := goodIn_app (goodIn_of _ (by decide +kernel)) ggX3_due_X3_requireBill
set_option maxRecDepth 20000 in
theorem ggX3_due_X0_dueOn : GoodIn wsX3_due wsX0_dueOn := goodIn_r _ [15, 16, 17, 18, 19, 14, 20, 21, 22, 23, 24, 25, 26, 27, 28, 29, 30, 35, 36, 37, 38, 39, 40, 41, 42, 43, 44, 45, 46] (by rfl) (by rfl)
set_option maxRecDepth 20000 in
theorem gX3_due_X0_dueOn : GoodIn wsX3_due (wsV RX3 132 RX0 yX0_dueOn wsX0_dueOn) := goodIn_app (goodIn_of _ (by decide +kernel)) ggX3_due_X0_dueOn
set_option maxRecDepth 20000 in
theorem ggX3_paid_X3_requireBill : GoodIn wsX3_paid wsX3_requireBill := goodIn_ca (goodIn_r _ [7, 8, 9, 1, 10, 11, 12, 13, 14, 15, 16, 17, 18, 19, 20, 21, 22, 23, 24, 25, 26] (by rfl) (by rfl)) (goodIn_sub (fun _ h => List.mem_cons_of_mem _ (List.mem_append_right _ h)) (by rfl))
set_option maxRecDepth 20000 in
theorem gX3_paid_X3_requireBill : GoodIn wsX3_paid (wsV RX3 117 RX3 yX3_requireBill wsX3_requireBill) := goodIn_app (goodIn_of _ (by decide +kernel)) ggX3_paid_X3_requireBill
set_option maxRecDepth 20000 in
theorem ggX3_taken_X3_requireBill : GoodIn wsX3_taken wsX3_requireBill := goodIn_ca (goodIn_r _ [7, 8, 9, 1, 10, 11, 12, 13, 14, 15, 16, 17, 18, 19, 20, 21, 22, 23, 24, 25, 26] (by rfl) (by rfl)) (goodIn_sub (fun _ h => List.mem_cons_of_mem _ (List.mem_append_right _ h)) (by rfl))
set_option maxRecDepth 20000 in
theorem gX3_taken_X3_requireBill : GoodIn wsX3_taken (wsV RX3 117 RX3 yX3_requireBill wsX3_requireBill) := goodIn_app (goodIn_of _ (by decide +kernel)) ggX3_taken_X3_requireBill
set_option maxRecDepth 20000 in
theorem ggX3_disputed_X3_requireBill : GoodIn wsX3_disputed wsX3_requireBill := goodIn_ca (goodIn_r _ [7, 8, 9, 1, 10, 11, 12, 13, 14, 15, 16, 17, 18, 19, 20, 21, 22, 23, 24, 25, 26] (by rfl) (by rfl)) (goodIn_sub (fun _ h => List.mem_cons_of_mem _ (List.mem_append_right _ h)) (by rfl))
set_option maxRecDepth 20000 in
theorem gX3_disputed_X3_requireBill : GoodIn wsX3_disputed (wsV RX3 117 RX3 yX3_requireBill wsX3_requireBill) := goodIn_app (goodIn_of _ (by decide +kernel)) ggX3_disputed_X3_requireBill
set_option maxRecDepth 20000 in
theorem ggX3_writtenOff_X3_requireBill : GoodIn wsX3_writtenOff wsX3_requireBill := goodIn_ca (goodIn_r _ [7, 8, 9, 1, 10, 11, 12, 13, 14, 15, 16, 17, 18, 19, 20, 21, 22, 23, 24, 25, 26] (by rfl) (by rfl)) (goodIn_sub (fun _ h => List.mem_cons_of_mem _ (List.mem_append_right _ h)) (by rfl))
set_option maxRecDepth 20000 in
theorem gX3_writtenOff_X3_requireBill : GoodIn wsX3_writtenOff (wsV RX3 117 RX3 yX3_requireBill wsX3_requireBill) := goodIn_app (goodIn_of _ (by decide +kernel)) ggX3_writtenOff_X3_requireBill
set_option maxRecDepth 20000 in
theorem ggX3_openOf_X3_requireCustomer : GoodIn wsX3_openOf wsX3_requireCustomer := goodIn_ca (goodIn_r _ [7, 8, 9] (by rfl) (by rfl)) (goodIn_sub (fun _ h => List.mem_cons_of_mem _ (List.mem_append_right _ h)) (by rfl))
set_option maxRecDepth 20000 in
theorem gX3_openOf_X3_requireCustomer : GoodIn wsX3_openOf (va_wsS RX3 34 yX3_requireCustomer wsX3_requireCustomer) := goodIn_app (goodIn_of _ (by decide +kernel)) ggX3_openOf_X3_requireCustomer
set_option maxRecDepth 20000 in
theorem ggX3_openOf_X0_openSum : GoodIn wsX3_openOf wsX0_openSum := goodIn_r _ [14, 15, 16, 17, 18, 19, 24, 25, 26, 27, 28, 29, 30, 31, 32, 33, 34, 35] (by rfl) (by rfl)
set_option maxRecDepth 20000 in
theorem gX3_openOf_X0_openSum : GoodIn wsX3_openOf (wsV RX3 129 RX0 yX0_openSum wsX0_openSum) := goodIn_app (goodIn_of _ (by decide +kernel)) ggX3_openOf_X0_openSum
set_option maxRecDepth 20000 in
theorem ggX3_setFor_X3_requireCustomer : GoodIn wsX3_setFor wsX3_requireCustomer := goodIn_ca (goodIn_r _ [10, 1, 2] (by rfl) (by rfl)) (goodIn_sub (fun _ h => List.mem_cons_of_mem _ (List.mem_append_left _ (List.mem_append_right _ h))) (by rfl))
set_option maxRecDepth 20000 in
theorem gX3_setFor_X3_requireCustomer : GoodIn wsX3_setFor (va_wsS RX3 34 yX3_requireCustomer wsX3_requireCustomer) := goodIn_app (goodIn_of _ (by decide +kernel)) ggX3_setFor_X3_requireCustomer
set_option maxRecDepth 20000 in
theorem ggX3_setFor_X3_chooseExactSet : GoodIn wsX3_setFor wsX3_chooseExactSet := goodIn_r _ [14, 5, 15, 16, 17, 18, 19, 20, 21, 22, 23, 24, 25, 26, 27, 28, 29, 30, 31, 32, 33, 34, 35, 36, 37, 38, 39, 40, 41, 42, 43, 44, 45, 46, 47, 48, 49, 50, 51, 52, 53, 54, 55, 56, 57, 58, 59, 60, 61, 62, 63, 64, 65, 66, 67, 68, 69, 70, 71, 72, 73, 74, 75, 76, 77, 78, 79, 84, 85, 86, 87, 88, 89, 90, 91, 92, 93, 94, 95, 80, 81, 82, 83] (by rfl) (by rfl)
set_option maxRecDepth 20000 in
theorem gX3_setFor_X3_chooseExactSet : GoodIn wsX3_setFor (wsV RX3 155 RX3 yX3_chooseExactSet wsX3_chooseExactSet) := goodIn_app (goodIn_of _ (by decide +kernel)) ggX3_setFor_X3_chooseExactSet
set_option maxRecDepth 20000 in
theorem ggX3_customerOf_X3_requireReceipt : GoodIn wsX3_customerOf wsX3_requireReceipt := goodIn_ca (goodIn_r _ [7, 8, 9, 1, 10, 11, 12, 13, 14, 15, 16, 17, 18, 19, 20, 21, 22, 23] (by rfl) (by rfl)) (goodIn_sub (fun _ h => List.mem_cons_of_mem _ (List.mem_append_right _ h)) (by rfl))
set_option maxRecDepth 20000 in
theorem gX3_customerOf_X3_requireReceipt : GoodIn wsX3_customerOf (wsV RX3 73 RX3 yX3_requireReceipt wsX3_requireReceipt) := goodIn_app (goodIn_of _ (by decide +kernel)) ggX3_customerOf_X3_requireReceipt
set_option maxRecDepth 20000 in
theorem ggX3_appliedTo_X3_requireReceipt : GoodIn wsX3_appliedTo wsX3_requireReceipt := goodIn_ca (goodIn_r _ [6, 7, 8, 1, 9, 25, 26, 27, 28, 29, 30, 31, 32, 33, 34, 35, 36, 37] (by rfl) (by rfl)) (goodIn_sub (fun _ h => List.mem_cons_of_mem _ (List.mem_append_right _ h)) (by rfl))
set_option maxRecDepth 20000 in
theorem gX3_appliedTo_X3_requireReceipt : GoodIn wsX3_appliedTo (wsV RX3 73 RX3 yX3_requireReceipt wsX3_requireReceipt) := goodIn_app (goodIn_of _ (by decide +kernel)) ggX3_appliedTo_X3_requireReceipt
set_option maxRecDepth 20000 in
theorem ggX3_appliedTo_X3_requireBill : GoodIn wsX3_appliedTo wsX3_requireBill := goodIn_ca (goodIn_r _ [13, 7, 8, 14, 15, 25, 26, 27, 28, 38, 39, 40, 41, 42, 43, 44, 45, 46, 47, 48, 49] (by rfl) (by rfl)) (goodIn_sub (fun _ h => List.mem_cons_of_mem _ (List.mem_append_right _ h)) (by rfl))
set_option maxRecDepth 20000 in
theorem gX3_appliedTo_X3_requireBill : GoodIn wsX3_appliedTo (wsV RX3 117 RX3 yX3_requireBill wsX3_requireBill) := goodIn_app (goodIn_of _ (by decide +kernel)) ggX3_appliedTo_X3_requireBill
set_option maxRecDepth 20000 in
theorem ggX3_appliedTo_X2_paidOf : GoodIn wsX3_appliedTo wsX2_paidOf := goodIn_r _ [20, 21, 22, 23, 19, 24, 29, 30, 31, 32, 33, 34, 35, 36, 37] (by rfl) (by rfl)
set_option maxRecDepth 20000 in
theorem gX3_appliedTo_X2_paidOf : GoodIn wsX3_appliedTo (wsV RX3 105 RX2 yX2_paidOf wsX2_paidOf) := goodIn_app (goodIn_of _ (by decide +kernel)) ggX3_appliedTo_X2_paidOf
set_option maxRecDepth 20000 in
theorem ggX3_unapplied_X3_requireReceipt : GoodIn wsX3_unapplied wsX3_requireReceipt := goodIn_ca (goodIn_r _ [7, 8, 9, 1, 10, 11, 12, 13, 14, 15, 16, 17, 18, 19, 20, 21, 22, 23] (by rfl) (by rfl)) (goodIn_sub (fun _ h => List.mem_cons_of_mem _ (List.mem_append_right _ h)) (by rfl))
set_option maxRecDepth 20000 in
theorem gX3_unapplied_X3_requireReceipt : GoodIn wsX3_unapplied (wsV RX3 73 RX3 yX3_requireReceipt wsX3_requireReceipt) := goodIn_app (goodIn_of _ (by decide +kernel)) ggX3_unapplied_X3_requireReceipt
set_option maxRecDepth 20000 in
theorem ggX3_hasBounced_X3_requireReceipt : GoodIn wsX3_hasBounced wsX3_requireReceipt := goodIn_ca (goodIn_r _ [7, 8, 9, 1, 10, 11, 12, 13, 14, 15, 16, 17, 18, 19, 20, 21, 22, 23] (by rfl) (by rfl)) (goodIn_sub (fun _ h => List.mem_cons_of_mem _ (List.mem_append_right _ h)) (by rfl))
set_option maxRecDepth 20000 in
theorem gX3_hasBounced_X3_requireReceipt : GoodIn wsX3_hasBounced (wsV RX3 73 RX3 yX3_requireReceipt wsX3_requireReceipt) := goodIn_app (goodIn_of _ (by decide +kernel)) ggX3_hasBounced_X3_requireReceipt
set_option maxRecDepth 20000 in
theorem ggX3_received_X2_totalOf : GoodIn wsX3_received wsX2_totalOf := goodIn_r _ [7, 8, 13, 14, 15, 16, 17, 18, 19, 20, 21] (by rfl) (by rfl)
set_option maxRecDepth 20000 in
theorem gX3_received_X2_totalOf : GoodIn wsX3_received (wsV RX3 168 RX2 yX2_totalOf wsX2_totalOf) := goodIn_app (goodIn_of _ (by decide +kernel)) ggX3_received_X2_totalOf
set_option maxRecDepth 20000 in
theorem ggX3_applied_X2_totalOf : GoodIn wsX3_applied wsX2_totalOf := goodIn_r _ [7, 8, 13, 14, 15, 16, 17, 18, 19, 20, 21] (by rfl) (by rfl)
set_option maxRecDepth 20000 in
theorem gX3_applied_X2_totalOf : GoodIn wsX3_applied (wsV RX3 168 RX2 yX2_totalOf wsX2_totalOf) := goodIn_app (goodIn_of _ (by decide +kernel)) ggX3_applied_X2_totalOf
set_option maxRecDepth 20000 in
theorem ggX3_allUnapplied_X2_totalOf : GoodIn wsX3_allUnapplied wsX2_totalOf := goodIn_r _ [7, 8, 13, 14, 15, 16, 17, 18, 19, 20, 21] (by rfl) (by rfl)
set_option maxRecDepth 20000 in
theorem gX3_allUnapplied_X2_totalOf : GoodIn wsX3_allUnapplied (wsV RX3 168 RX2 yX2_totalOf wsX2_totalOf) := goodIn_app (goodIn_of _ (by decide +kernel)) ggX3_allUnapplied_X2_totalOf
set_option maxRecDepth 20000 in
theorem ggX3_paidBack_X2_totalOf : GoodIn wsX3_paidBack wsX2_totalOf := goodIn_r _ [7, 8, 13, 14, 15, 16, 17, 18, 19, 20, 21] (by rfl) (by rfl)
set_option maxRecDepth 20000 in
theorem gX3_paidBack_X2_totalOf : GoodIn wsX3_paidBack (wsV RX3 168 RX2 yX2_totalOf wsX2_totalOf) := goodIn_app (goodIn_of _ (by decide +kernel)) ggX3_paidBack_X2_totalOf
set_option maxRecDepth 20000 in
theorem ggX3_bounced_X2_bouncedTotal : GoodIn wsX3_bounced wsX2_bouncedTotal := goodIn_r _ [6, 7, 8, 9, 14, 15, 16, 17, 18, 19, 20, 21, 22] (by rfl) (by rfl)
set_option maxRecDepth 20000 in
theorem gX3_bounced_X2_bouncedTotal : GoodIn wsX3_bounced (wsV RX3 175 RX2 yX2_bouncedTotal wsX2_bouncedTotal) := goodIn_app (goodIn_of _ (by decide +kernel)) ggX3_bounced_X2_bouncedTotal
set_option maxRecDepth 20000 in
theorem ggX3_payNamedBills_X0_customerNamedBy : GoodIn wsX3_payNamedBills wsX0_customerNamedBy := goodIn_r _ [11, 12, 13, 14, 15, 16, 17, 10, 18, 19, 20, 21, 22, 23, 80, 81, 82, 83, 84, 85, 86, 87, 88, 89, 90, 91] (by rfl) (by rfl)
set_option maxRecDepth 20000 in
theorem gX3_payNamedBills_X0_customerNamedBy : GoodIn wsX3_payNamedBills (wsV RX3 179 RX0 yX0_customerNamedBy wsX0_customerNamedBy) := goodIn_app (goodIn_of _ (by decide +kernel)) ggX3_payNamedBills_X0_customerNamedBy
set_option maxRecDepth 20000 in
theorem ggX3_payNamedBills_X0_isOpenFor : GoodIn wsX3_payNamedBills wsX0_isOpenFor := goodIn_r _ [27, 14, 15, 16, 17, 10, 18, 19, 20, 21, 22, 23, 80, 81, 82, 83, 84, 85, 86, 87, 88, 89, 90, 91] (by rfl) (by rfl)
set_option maxRecDepth 20000 in
theorem gX3_payNamedBills_X0_isOpenFor : GoodIn wsX3_payNamedBills (wsV RX3 182 RX0 yX0_isOpenFor wsX0_isOpenFor) := goodIn_app (goodIn_of _ (by decide +kernel)) ggX3_payNamedBills_X0_isOpenFor
set_option maxRecDepth 20000 in
theorem ggX3_payNamedBills_X3_payBill : GoodIn wsX3_payNamedBills wsX3_payBill := goodIn_r _ [32, 3, 33, 1, 5, 34, 35, 36, 37, 10, 38, 39, 15, 16, 17, 18, 19, 20, 21, 22, 23, 40, 41, 42, 43, 44, 45, 46, 47, 48, 49, 50, 51, 52, 53, 54, 55, 56, 57, 58, 59, 60, 61, 67, 68, 69, 70, 71, 72, 73, 74, 75, 76, 77, 78, 79, 80, 81, 82, 83, 84, 85, 86, 87, 88, 89, 90, 91] (by rfl) (by rfl)
set_option maxRecDepth 20000 in
theorem gX3_payNamedBills_X3_payBill : GoodIn wsX3_payNamedBills (wsV RX3 188 RX3 yX3_payBill wsX3_payBill) := goodIn_app (goodIn_of _ (by decide +kernel)) ggX3_payNamedBills_X3_payBill
set_option maxRecDepth 20000 in
theorem ggX3_payNamedBills_X0_disputeRest : GoodIn wsX3_payNamedBills wsX0_disputeRest := goodIn_r _ [65, 22, 66, 15, 16, 17, 10, 18, 19, 20, 21, 23, 80, 81, 82, 83, 84, 85, 86, 87, 88, 89, 90, 91] (by rfl) (by rfl)
set_option maxRecDepth 20000 in
theorem gX3_payNamedBills_X0_disputeRest : GoodIn wsX3_payNamedBills (wsV RX3 191 RX0 yX0_disputeRest wsX0_disputeRest) := goodIn_app (goodIn_of _ (by decide +kernel)) ggX3_payNamedBills_X0_disputeRest
set_option maxRecDepth 20000 in
theorem ggX3_payOtherBills_X3_payExactSet : GoodIn wsX3_payOtherBills wsX3_payExactSet := goodIn_r _ [8, 1, 2, 3, 9, 10, 11, 12, 13, 14, 15, 7, 16, 17, 18, 19, 20, 21, 22, 23, 24, 25, 26, 27, 28, 29, 30, 31, 32, 33, 34, 35, 36, 37, 38, 39, 40, 41, 42, 43, 44, 45, 46, 47, 48, 49, 50, 51, 52, 53, 54, 55, 56, 57, 58, 59, 60, 61, 62, 63, 64, 65, 66, 67, 68, 69, 70, 71, 72, 73, 74, 75, 76, 77, 78, 79, 80, 81, 82, 83, 84, 85, 86, 87, 88, 89, 90, 91, 92, 93, 94, 95, 96, 97, 102, 103, 104, 105, 106, 107, 108, 109, 110, 111, 112, 113, 114, 115, 116, 117, 118, 119, 120, 121, 122, 123, 124, 125, 126, 127, 128, 129, 130] (by rfl) (by rfl)
set_option maxRecDepth 20000 in
theorem gX3_payOtherBills_X3_payExactSet : GoodIn wsX3_payOtherBills (wsV RX3 194 RX3 yX3_payExactSet wsX3_payExactSet) := goodIn_app (goodIn_of _ (by decide +kernel)) ggX3_payOtherBills_X3_payExactSet
set_option maxRecDepth 20000 in
theorem ggX3_payOtherBills_X3_payOldestBills : GoodIn wsX3_payOtherBills wsX3_payOldestBills := goodIn_r _ [101, 1, 2, 11, 12, 3, 25, 26, 27, 28, 29, 30, 31, 32, 33, 34, 35, 36, 37, 38, 39, 76, 77, 78, 7, 79, 17, 80, 40, 41, 42, 43, 44, 45, 46, 47, 48, 49, 81, 82, 83, 84, 85, 86, 87, 88, 89, 90, 91, 92, 93, 94, 95, 96, 97, 102, 103, 104, 105, 106, 107, 108, 109, 110, 111, 112, 113, 114, 119, 120, 121, 122, 123, 124, 125, 126, 127, 128, 129, 130] (by rfl) (by rfl)
set_option maxRecDepth 20000 in
theorem gX3_payOtherBills_X3_payOldestBills : GoodIn wsX3_payOtherBills (wsV RX3 197 RX3 yX3_payOldestBills wsX3_payOldestBills) := goodIn_app (goodIn_of _ (by decide +kernel)) ggX3_payOtherBills_X3_payOldestBills
set_option maxRecDepth 20000 in
theorem ggX3_payExactSet_X3_chooseExactSet : GoodIn wsX3_payExactSet wsX3_chooseExactSet := goodIn_r _ [12, 4, 6, 7, 13, 14, 15, 16, 17, 18, 19, 20, 21, 22, 23, 24, 25, 26, 27, 28, 29, 30, 31, 32, 33, 34, 35, 36, 37, 38, 39, 40, 41, 42, 43, 44, 45, 46, 47, 48, 49, 50, 51, 52, 53, 54, 55, 56, 57, 58, 59, 60, 61, 62, 63, 64, 65, 66, 67, 68, 69, 70, 71, 94, 95, 96, 97, 111, 112, 113, 114, 115, 116, 117, 118, 119, 120, 121, 122, 107, 108, 109, 110] (by rfl) (by rfl)
set_option maxRecDepth 20000 in
theorem gX3_payExactSet_X3_chooseExactSet : GoodIn wsX3_payExactSet (wsV RX3 155 RX3 yX3_chooseExactSet wsX3_chooseExactSet) := goodIn_app (goodIn_of _ (by decide +kernel)) ggX3_payExactSet_X3_chooseExactSet
set_option maxRecDepth 20000 in
theorem ggX3_payExactSet_X3_payBill : GoodIn wsX3_payExactSet wsX3_payBill := goodIn_r _ [75, 6, 13, 1, 3, 76, 36, 37, 38, 24, 39, 40, 27, 28, 29, 30, 31, 32, 33, 34, 35, 41, 42, 43, 44, 45, 77, 78, 79, 80, 81, 82, 83, 84, 85, 86, 87, 88, 89, 90, 91, 92, 93, 94, 95, 96, 97, 98, 99, 100, 101, 102, 103, 104, 105, 106, 111, 112, 113, 114, 115, 116, 117, 118, 119, 120, 121, 122] (by rfl) (by rfl)
set_option maxRecDepth 20000 in
theorem gX3_payExactSet_X3_payBill : GoodIn wsX3_payExactSet (wsV RX3 188 RX3 yX3_payBill wsX3_payBill) := goodIn_app (goodIn_of _ (by decide +kernel)) ggX3_payExactSet_X3_payBill
set_option maxRecDepth 20000 in
theorem ggX3_payOldestBills_X0_isOpenFor : GoodIn wsX3_payOldestBills wsX0_isOpenFor := goodIn_r _ [10, 11, 12, 13, 14, 9, 15, 16, 17, 18, 19, 20, 68, 69, 70, 71, 72, 73, 74, 75, 76, 77, 78, 79] (by rfl) (by rfl)
set_option maxRecDepth 20000 in
theorem gX3_payOldestBills_X0_isOpenFor : GoodIn wsX3_payOldestBills (wsV RX3 182 RX0 yX0_isOpenFor wsX0_isOpenFor) := goodIn_app (goodIn_of _ (by decide +kernel)) ggX3_payOldestBills_X0_isOpenFor
set_option maxRecDepth 20000 in
theorem ggX3_payOldestBills_X3_payBill : GoodIn wsX3_payOldestBills wsX3_payBill := goodIn_r _ [25, 3, 26, 1, 5, 27, 28, 29, 30, 9, 31, 32, 12, 13, 14, 15, 16, 17, 18, 19, 20, 33, 34, 35, 36, 37, 38, 39, 40, 41, 42, 43, 44, 45, 46, 47, 48, 49, 50, 51, 52, 53, 54, 55, 56, 57, 58, 59, 60, 61, 62, 63, 64, 65, 66, 67, 68, 69, 70, 71, 72, 73, 74, 75, 76, 77, 78, 79] (by rfl) (by rfl)
set_option maxRecDepth 20000 in
theorem gX3_payOldestBills_X3_payBill : GoodIn wsX3_payOldestBills (wsV RX3 188 RX3 yX3_payBill wsX3_payBill) := goodIn_app (goodIn_of _ (by decide +kernel)) ggX3_payOldestBills_X3_payBill
set_option maxRecDepth 20000 in
theorem ggX3_payBill_X0_dueOn : GoodIn wsX3_payBill wsX0_dueOn := goodIn_r _ [10, 11, 12, 13, 14, 9, 15, 16, 17, 18, 19, 20, 21, 22, 23, 24, 25, 56, 57, 58, 59, 60, 61, 62, 63, 64, 65, 66, 67] (by rfl) (by rfl)
set_option maxRecDepth 20000 in
theorem gX3_payBill_X0_dueOn : GoodIn wsX3_payBill (wsV RX3 132 RX0 yX0_dueOn wsX0_dueOn) := goodIn_app (goodIn_of _ (by decide +kernel)) ggX3_payBill_X0_dueOn
set_option maxRecDepth 20000 in
theorem ggX3_payBill_X0_takeDiscount : GoodIn wsX3_payBill wsX0_takeDiscount := goodIn_r _ [29, 18, 11, 30, 21, 22, 23, 9, 24, 16, 25, 12, 13, 14, 15, 17, 19, 20, 56, 57, 58, 59, 60, 61, 62, 63, 64, 65, 66, 67] (by rfl) (by rfl)
set_option maxRecDepth 20000 in
theorem gX3_payBill_X0_takeDiscount : GoodIn wsX3_payBill (wsV RX3 200 RX0 yX0_takeDiscount wsX0_takeDiscount) := goodIn_app (goodIn_of _ (by decide +kernel)) ggX3_payBill_X0_takeDiscount
set_option maxRecDepth 20000 in
theorem ggX3_payBill_X2_addPayment : GoodIn wsX3_payBill wsX2_addPayment := goodIn_r _ [35, 36, 37, 38, 39, 40, 41, 34, 42, 47, 48, 49, 50, 51, 52, 53, 54, 55] (by rfl) (by rfl)
set_option maxRecDepth 20000 in
theorem gX3_payBill_X2_addPayment : GoodIn wsX3_payBill (wsV RX3 203 RX2 yX2_addPayment wsX2_addPayment) := goodIn_app (goodIn_of _ (by decide +kernel)) ggX3_payBill_X2_addPayment
set_option maxRecDepth 20000 in
theorem ggX3_chooseExactSet_X1_clear : GoodIn wsX3_chooseExactSet wsX1_clear := goodIn_r _ [9, 10, 11, 79, 80, 81, 82] (by rfl) (by rfl)
set_option maxRecDepth 20000 in
theorem gX3_chooseExactSet_X1_clear : GoodIn wsX3_chooseExactSet (wsV RX3 206 RX1 yX1_clear wsX1_clear) := goodIn_app (goodIn_of _ (by decide +kernel)) ggX3_chooseExactSet_X1_clear
set_option maxRecDepth 20000 in
theorem ggX3_chooseExactSet_X0_isOpenFor : GoodIn wsX3_chooseExactSet wsX0_isOpenFor := goodIn_r _ [16, 17, 18, 19, 20, 15, 21, 22, 23, 24, 25, 26, 67, 68, 69, 70, 71, 72, 73, 74, 75, 76, 77, 78] (by rfl) (by rfl)
set_option maxRecDepth 20000 in
theorem gX3_chooseExactSet_X0_isOpenFor : GoodIn wsX3_chooseExactSet (wsV RX3 182 RX0 yX0_isOpenFor wsX0_isOpenFor) := goodIn_app (goodIn_of _ (by decide +kernel)) ggX3_chooseExactSet_X0_isOpenFor
set_option maxRecDepth 20000 in
theorem ggX3_chooseExactSet_X0_dueOn : GoodIn wsX3_chooseExactSet wsX0_dueOn := goodIn_r _ [30, 31, 18, 19, 20, 15, 21, 22, 23, 24, 25, 26, 32, 33, 34, 35, 36, 67, 68, 69, 70, 71, 72, 73, 74, 75, 76, 77, 78] (by rfl) (by rfl)
set_option maxRecDepth 20000 in
theorem gX3_chooseExactSet_X0_dueOn : GoodIn wsX3_chooseExactSet (wsV RX3 132 RX0 yX0_dueOn wsX0_dueOn) := goodIn_app (goodIn_of _ (by decide +kernel)) ggX3_chooseExactSet_X0_dueOn
set_option maxRecDepth 20000 in
theorem ggX3_chooseExactSet_X1_offer : GoodIn wsX3_chooseExactSet wsX1_offer := goodIn_r _ [40, 10, 41, 42, 79, 80, 81, 82] (by rfl) (by rfl)
set_option maxRecDepth 20000 in
theorem gX3_chooseExactSet_X1_offer : GoodIn wsX3_chooseExactSet (wsV RX3 209 RX1 yX1_offer wsX1_offer) := goodIn_app (goodIn_of _ (by decide +kernel)) ggX3_chooseExactSet_X1_offer
set_option maxRecDepth 20000 in
theorem ggX3_chooseExactSet_X1_choose : GoodIn wsX3_chooseExactSet wsX1_choose := goodIn_r _ [46, 47, 48, 49, 8, 50, 11, 41, 51, 52, 53, 54, 10, 42, 55, 56, 57, 58, 59, 60, 61, 62, 79, 80, 81, 82] (by rfl) (by rfl)
set_option maxRecDepth 20000 in
theorem gX3_chooseExactSet_X1_choose : GoodIn wsX3_chooseExactSet (wsV RX3 212 RX1 yX1_choose wsX1_choose) := goodIn_app (goodIn_of _ (by decide +kernel)) ggX3_chooseExactSet_X1_choose
set_option maxRecDepth 20000 in
theorem ggX4_isCustomer_X4_in : GoodIn wsX4_isCustomer wsX4_in := goodIn_r _ [4] (by rfl) (by rfl)
set_option maxRecDepth 20000 in
theorem gX4_isCustomer_X4_in : GoodIn wsX4_isCustomer (va_wsS RX4 75 yX4_in wsX4_in) := goodIn_app (goodIn_of _ (by decide +kernel)) ggX4_isCustomer_X4_in
set_option maxRecDepth 20000 in
theorem ggX4_isBill_X4_in : GoodIn wsX4_isBill wsX4_in := goodIn_r _ [5] (by rfl) (by rfl)
set_option maxRecDepth 20000 in
theorem gX4_isBill_X4_in : GoodIn wsX4_isBill (va_wsS RX4 75 yX4_in wsX4_in) := goodIn_app (goodIn_of _ (by decide +kernel)) ggX4_isBill_X4_in
set_option maxRecDepth 20000 in
theorem ggX4_isReceipt_X4_in : GoodIn wsX4_isReceipt wsX4_in := goodIn_r _ [5] (by rfl) (by rfl)
set_option maxRecDepth 20000 in
theorem gX4_isReceipt_X4_in : GoodIn wsX4_isReceipt (va_wsS RX4 75 yX4_in wsX4_in) := goodIn_app (goodIn_of _ (by decide +kernel)) ggX4_isReceipt_X4_in
set_option maxRecDepth 20000 in
theorem ggX4_discount_X4_openNow : GoodIn wsX4_discount wsX4_openNow := goodIn_r _ [11, 1, 12, 13, 14, 15, 16, 17, 18, 19, 20, 21, 22, 23, 24, 25, 26, 27, 28, 29, 30, 31, 32, 33, 34, 35, 36, 37, 38, 39] (by rfl) (by rfl)
set_option maxRecDepth 20000 in
theorem gX4_discount_X4_openNow : GoodIn wsX4_discount (wsV RX4 85 RX4 yX4_openNow wsX4_openNow) := goodIn_app (goodIn_of _ (by decide +kernel)) ggX4_discount_X4_openNow
set_option maxRecDepth 20000 in
theorem ggX4_dueNow_X4_openNow : GoodIn wsX4_dueNow wsX4_openNow := goodIn_r _ [5, 6, 7, 8, 9, 10, 20, 21, 22, 23, 24, 25, 26, 27, 28, 29, 30, 31, 32, 33, 34, 35, 36, 37, 38, 39, 40, 41, 42, 43] (by rfl) (by rfl)
set_option maxRecDepth 20000 in
theorem gX4_dueNow_X4_openNow : GoodIn wsX4_dueNow (wsV RX4 85 RX4 yX4_openNow wsX4_openNow) := goodIn_app (goodIn_of _ (by decide +kernel)) ggX4_dueNow_X4_openNow
set_option maxRecDepth 20000 in
theorem ggX4_dueNow_X4_discount : GoodIn wsX4_dueNow wsX4_discount := goodIn_r _ [14, 6, 15, 16, 17, 18, 19, 1, 2, 3, 4, 5, 7, 8, 9, 10, 20, 21, 22, 23, 24, 25, 26, 27, 28, 29, 30, 31, 32, 33, 34, 35, 36, 37, 38, 39, 40, 41, 42, 43] (by rfl) (by rfl)
set_option maxRecDepth 20000 in
theorem gX4_dueNow_X4_discount : GoodIn wsX4_dueNow (wsV RX4 94 RX4 yX4_discount wsX4_discount) := goodIn_app (goodIn_of _ (by decide +kernel)) ggX4_dueNow_X4_discount
set_option maxRecDepth 20000 in
theorem ggX4_pay_X4_dueNow : GoodIn wsX4_pay wsX4_dueNow := goodIn_r _ [11, 12, 13, 14, 10, 15, 16, 4, 2, 17, 18, 19, 20, 21, 22, 23, 24, 25, 26, 27, 28, 29, 30, 31, 32, 33, 34, 35, 36, 37, 38, 39, 40, 41, 42, 43, 44, 45, 46, 47, 48, 49, 50, 51] (by rfl) (by rfl)
set_option maxRecDepth 20000 in
theorem gX4_pay_X4_dueNow : GoodIn wsX4_pay (wsV RX4 97 RX4 yX4_dueNow wsX4_dueNow) := goodIn_app (goodIn_of _ (by decide +kernel)) ggX4_pay_X4_dueNow
set_option maxRecDepth 20000 in
theorem ggX4_pay_X4_discount : GoodIn wsX4_pay wsX4_discount := goodIn_r _ [22, 16, 23, 24, 25, 26, 27, 12, 13, 14, 10, 15, 4, 2, 17, 18, 28, 29, 30, 31, 32, 33, 34, 35, 36, 37, 38, 39, 40, 41, 42, 43, 44, 45, 46, 47, 48, 49, 50, 51] (by rfl) (by rfl)
set_option maxRecDepth 20000 in
theorem gX4_pay_X4_discount : GoodIn wsX4_pay (wsV RX4 94 RX4 yX4_discount wsX4_discount) := goodIn_app (goodIn_of _ (by decide +kernel)) ggX4_pay_X4_discount
set_option maxRecDepth 20000 in
theorem ggX4_payNamed_X4_openNow : GoodIn wsX4_payNamed wsX4_openNow := goodIn_r _ [10, 11, 12, 13, 14, 15, 41, 42, 43, 44, 45, 46, 47, 48, 49, 50, 51, 52, 53, 54, 55, 56, 57, 58, 59, 60, 61, 62, 63, 64] (by rfl) (by rfl)
set_option maxRecDepth 20000 in
theorem gX4_payNamed_X4_openNow : GoodIn wsX4_payNamed (wsV RX4 85 RX4 yX4_openNow wsX4_openNow) := goodIn_app (goodIn_of _ (by decide +kernel)) ggX4_payNamed_X4_openNow
set_option maxRecDepth 20000 in
theorem ggX4_payNamed_X4_pay : GoodIn wsX4_payNamed wsX4_pay := goodIn_r _ [19, 5, 13, 20, 12, 21, 22, 23, 24, 25, 9, 26, 6, 7, 8, 10, 11, 14, 15, 27, 28, 29, 30, 31, 32, 33, 34, 35, 41, 42, 43, 44, 45, 46, 47, 48, 49, 50, 51, 52, 53, 54, 55, 56, 57, 58, 59, 60, 61, 62, 63, 64] (by rfl) (by rfl)
set_option maxRecDepth 20000 in
theorem gX4_payNamed_X4_pay : GoodIn wsX4_payNamed (wsV RX4 100 RX4 yX4_pay wsX4_pay) := goodIn_app (goodIn_of _ (by decide +kernel)) ggX4_payNamed_X4_pay
set_option maxRecDepth 20000 in
theorem ggX4_payNamed_X4_dispute : GoodIn wsX4_payNamed wsX4_dispute := goodIn_r _ [39, 14, 40, 6, 7, 8, 9, 10, 11, 12, 13, 15, 41, 42, 43, 44, 45, 46, 47, 48, 49, 50, 51, 52, 53, 54, 55, 56, 57, 58, 59, 60, 61, 62, 63, 64] (by rfl) (by rfl)
set_option maxRecDepth 20000 in
theorem gX4_payNamed_X4_dispute : GoodIn wsX4_payNamed (wsV RX4 104 RX4 yX4_dispute wsX4_dispute) := goodIn_app (goodIn_of _ (by decide +kernel)) ggX4_payNamed_X4_dispute
set_option maxRecDepth 20000 in
theorem ggX4_dispute_X4_openNow : GoodIn wsX4_dispute wsX4_openNow := goodIn_r _ [7, 8, 9, 10, 1, 11, 12, 13, 14, 15, 16, 17, 18, 19, 20, 21, 22, 23, 24, 25, 26, 27, 28, 29, 30, 31, 32, 33, 34, 35] (by rfl) (by rfl)
set_option maxRecDepth 20000 in
theorem gX4_dispute_X4_openNow : GoodIn wsX4_dispute (wsV RX4 85 RX4 yX4_openNow wsX4_openNow) := goodIn_app (goodIn_of _ (by decide +kernel)) ggX4_dispute_X4_openNow
set_option maxRecDepth 20000 in
theorem ggX4_dueOf_X4_isBill : GoodIn wsX4_dueOf wsX4_isBill := goodIn_r _ [6, 7, 8, 9, 5, 10, 33, 34, 35, 36, 37, 38, 39, 40, 41, 42, 43, 44, 45, 46, 47, 48, 49, 50, 51, 52, 53, 54, 55, 56] (by rfl) (by rfl)
set_option maxRecDepth 20000 in
theorem gX4_dueOf_X4_isBill : GoodIn wsX4_dueOf (wsV RX4 108 RX4 yX4_isBill wsX4_isBill) := goodIn_app (goodIn_of _ (by decide +kernel)) ggX4_dueOf_X4_isBill
set_option maxRecDepth 20000 in
theorem ggX4_dueOf_X4_openNow : GoodIn wsX4_dueOf wsX4_openNow := goodIn_r _ [14, 15, 16, 17, 18, 19, 33, 34, 35, 36, 37, 38, 39, 40, 41, 42, 43, 44, 45, 46, 47, 48, 49, 50, 51, 52, 53, 54, 55, 56] (by rfl) (by rfl)
set_option maxRecDepth 20000 in
theorem gX4_dueOf_X4_openNow : GoodIn wsX4_dueOf (wsV RX4 85 RX4 yX4_openNow wsX4_openNow) := goodIn_app (goodIn_of _ (by decide +kernel)) ggX4_dueOf_X4_openNow
set_option maxRecDepth 20000 in
theorem ggX4_dueOf_X4_dueNow : GoodIn wsX4_dueOf wsX4_dueNow := goodIn_r _ [23, 11, 12, 13, 5, 14, 15, 16, 17, 18, 19, 24, 25, 26, 27, 28, 29, 30, 31, 32, 33, 34, 35, 36, 37, 38, 39, 40, 41, 42, 43, 44, 45, 46, 47, 48, 49, 50, 51, 52, 53, 54, 55, 56] (by rfl) (by rfl)
set_option maxRecDepth 20000 in
theorem gX4_dueOf_X4_dueNow : GoodIn wsX4_dueOf (wsV RX4 97 RX4 yX4_dueNow wsX4_dueNow) := goodIn_app (goodIn_of _ (by decide +kernel)) ggX4_dueOf_X4_dueNow
set_option maxRecDepth 20000 in
theorem ggX4_choose_X4_dueOf : GoodIn wsX4_choose wsX4_dueOf := goodIn_r _ [7, 8, 9, 10, 11, 6, 12, 1, 13, 14, 15, 16, 17, 18, 19, 20, 21, 22, 23, 24, 25, 26, 27, 28, 29, 30, 31, 32, 33, 34, 35, 36, 37, 38, 39, 40, 41, 42, 43, 44, 45, 46, 47, 48, 49, 50, 51, 52, 53, 54, 55, 56, 57, 58, 59, 60, 61] (by rfl) (by rfl)
set_option maxRecDepth 20000 in
theorem gX4_choose_X4_dueOf : GoodIn wsX4_choose (wsV RX4 112 RX4 yX4_dueOf wsX4_dueOf) := goodIn_app (goodIn_of _ (by decide +kernel)) ggX4_choose_X4_dueOf
set_option maxRecDepth 20000 in
theorem ggX4_payOthers_X4_choose : GoodIn wsX4_payOthers wsX4_choose := goodIn_r _ [11, 4, 3, 12, 13, 14, 10, 15, 6, 16, 17, 18, 19, 20, 21, 22, 23, 24, 25, 26, 27, 28, 29, 30, 31, 32, 33, 34, 35, 36, 37, 38, 39, 40, 5, 41, 42, 43, 51, 52, 53, 54, 55, 56, 57, 58, 59, 60, 61, 62, 63, 64, 65, 66, 67, 68, 69, 70, 71, 72, 73, 74] (by rfl) (by rfl)
set_option maxRecDepth 20000 in
theorem gX4_payOthers_X4_choose : GoodIn wsX4_payOthers (wsV RX4 116 RX4 yX4_choose wsX4_choose) := goodIn_app (goodIn_of _ (by decide +kernel)) ggX4_payOthers_X4_choose
set_option maxRecDepth 20000 in
theorem ggX4_payOthers_X4_pay : GoodIn wsX4_payOthers wsX4_pay := goodIn_r _ [47, 2, 29, 48, 28, 49, 50, 32, 33, 34, 10, 35, 23, 24, 25, 26, 27, 30, 31, 36, 37, 38, 39, 40, 5, 41, 42, 43, 51, 52, 53, 54, 55, 56, 57, 58, 59, 60, 61, 62, 63, 64, 65, 66, 67, 68, 69, 70, 71, 72, 73, 74] (by rfl) (by rfl)
set_option maxRecDepth 20000 in
theorem gX4_payOthers_X4_pay : GoodIn wsX4_payOthers (wsV RX4 100 RX4 yX4_pay wsX4_pay) := goodIn_app (goodIn_of _ (by decide +kernel)) ggX4_payOthers_X4_pay
set_option maxRecDepth 20000 in
theorem ggX4_payOthers_X4_openNow : GoodIn wsX4_payOthers wsX4_openNow := goodIn_r _ [26, 27, 28, 29, 30, 31, 51, 52, 53, 54, 55, 56, 57, 58, 59, 60, 61, 62, 63, 64, 65, 66, 67, 68, 69, 70, 71, 72, 73, 74] (by rfl) (by rfl)
set_option maxRecDepth 20000 in
theorem gX4_payOthers_X4_openNow : GoodIn wsX4_payOthers (wsV RX4 85 RX4 yX4_openNow wsX4_openNow) := goodIn_app (goodIn_of _ (by decide +kernel)) ggX4_payOthers_X4_openNow
set_option maxRecDepth 20000 in
theorem ggX4_bill_X4_in : GoodIn wsX4_bill wsX4_in := goodIn_r _ [15] (by rfl) (by rfl)
set_option maxRecDepth 20000 in
theorem gX4_bill_X4_in : GoodIn wsX4_bill (va_wsS RX4 75 yX4_in wsX4_in) := goodIn_app (goodIn_of _ (by decide +kernel)) ggX4_bill_X4_in
set_option maxRecDepth 20000 in
theorem ggX4_bill_X4_isCustomer : GoodIn wsX4_bill wsX4_isCustomer := goodIn_r _ [18, 12, 13, 14, 15] (by rfl) (by rfl)
set_option maxRecDepth 20000 in
theorem gX4_bill_X4_isCustomer : GoodIn wsX4_bill (va_wsS RX4 121 yX4_isCustomer wsX4_isCustomer) := goodIn_app (goodIn_of _ (by decide +kernel)) ggX4_bill_X4_isCustomer
set_option maxRecDepth 20000 in
theorem ggX4_bill_X4_refused : GoodIn wsX4_bill wsX4_refused := goodIn_r _ [22, 23, 24, 25, 26, 27, 28, 29, 30, 31, 32, 33, 34, 35, 36, 37, 38, 39, 40, 41, 42, 43, 44, 45, 46, 47] (by rfl) (by rfl)
set_option maxRecDepth 20000 in
theorem gX4_bill_X4_refused : GoodIn wsX4_bill (wsV RX4 124 RX4 yX4_refused wsX4_refused) := goodIn_app (goodIn_of _ (by decide +kernel)) ggX4_bill_X4_refused
set_option maxRecDepth 20000 in
theorem ggX4_receive_X4_in : GoodIn wsX4_receive wsX4_in := goodIn_r _ [9] (by rfl) (by rfl)
set_option maxRecDepth 20000 in
theorem gX4_receive_X4_in : GoodIn wsX4_receive (va_wsS RX4 75 yX4_in wsX4_in) := goodIn_app (goodIn_of _ (by decide +kernel)) ggX4_receive_X4_in
set_option maxRecDepth 20000 in
theorem ggX4_receive_X4_isCustomer : GoodIn wsX4_receive wsX4_isCustomer := goodIn_r _ [12, 6, 7, 8, 9] (by rfl) (by rfl)
set_option maxRecDepth 20000 in
theorem gX4_receive_X4_isCustomer : GoodIn wsX4_receive (va_wsS RX4 121 yX4_isCustomer wsX4_isCustomer) := goodIn_app (goodIn_of _ (by decide +kernel)) ggX4_receive_X4_isCustomer
set_option maxRecDepth 20000 in
theorem ggX4_receive_X4_refused : GoodIn wsX4_receive wsX4_refused := goodIn_r _ [16, 17, 76, 77, 78, 79, 80, 81, 82, 83, 84, 85, 86, 87, 88, 89, 90, 91, 92, 93, 94, 95, 96, 97, 98, 99] (by rfl) (by rfl)
set_option maxRecDepth 20000 in
theorem gX4_receive_X4_refused : GoodIn wsX4_receive (wsV RX4 124 RX4 yX4_refused wsX4_refused) := goodIn_app (goodIn_of _ (by decide +kernel)) ggX4_receive_X4_refused
set_option maxRecDepth 20000 in
theorem ggX4_receive_X4_payNamed : GoodIn wsX4_receive wsX4_payNamed := goodIn_r _ [21, 22, 4, 23, 24, 5, 25, 26, 27, 8, 28, 29, 30, 31, 32, 33, 34, 35, 36, 37, 38, 39, 40, 41, 42, 43, 44, 45, 46, 47, 48, 49, 50, 51, 52, 53, 54, 55, 56, 57, 58, 76, 77, 78, 79, 80, 81, 82, 83, 84, 85, 86, 87, 88, 89, 90, 91, 92, 93, 94, 95, 96, 97, 98, 99] (by rfl) (by rfl)
set_option maxRecDepth 20000 in
theorem gX4_receive_X4_payNamed : GoodIn wsX4_receive (wsV RX4 127 RX4 yX4_payNamed wsX4_payNamed) := goodIn_app (goodIn_of _ (by decide +kernel)) ggX4_receive_X4_payNamed
set_option maxRecDepth 20000 in
theorem ggX4_receive_X4_payOthers : GoodIn wsX4_receive wsX4_payOthers := goodIn_r _ [62, 4, 5, 63, 22, 50, 24, 64, 65, 66, 8, 67, 68, 69, 70, 71, 72, 73, 74, 75, 6, 7, 9, 25, 26, 27, 28, 29, 30, 31, 32, 33, 41, 42, 43, 44, 45, 46, 47, 48, 49, 51, 52, 53, 34, 35, 36, 37, 38, 39, 40, 76, 77, 78, 79, 80, 81, 82, 83, 84, 85, 86, 87, 88, 89, 90, 91, 92, 93, 94, 95, 96, 97, 98, 99] (by rfl) (by rfl)
set_option maxRecDepth 20000 in
theorem gX4_receive_X4_payOthers : GoodIn wsX4_receive (wsV RX4 130 RX4 yX4_payOthers wsX4_payOthers) := goodIn_app (goodIn_of _ (by decide +kernel)) ggX4_receive_X4_payOthers
set_option maxRecDepth 20000 in
theorem ggX4_assign_X4_isReceipt : GoodIn wsX4_assign wsX4_isReceipt := goodIn_r _ [8, 9, 10, 11, 7, 12, 69, 70, 71, 72, 73, 74, 75, 76, 77, 78, 79, 80, 81, 82, 83, 84, 85, 86, 87, 88, 89, 90, 91, 92] (by rfl) (by rfl)
set_option maxRecDepth 20000 in
theorem gX4_assign_X4_isReceipt : GoodIn wsX4_assign (wsV RX4 134 RX4 yX4_isReceipt wsX4_isReceipt) := goodIn_app (goodIn_of _ (by decide +kernel)) ggX4_assign_X4_isReceipt
set_option maxRecDepth 20000 in
theorem ggX4_assign_X4_isCustomer : GoodIn wsX4_assign wsX4_isCustomer := goodIn_r _ [15, 10, 11, 7, 12] (by rfl) (by rfl)
set_option maxRecDepth 20000 in
theorem gX4_assign_X4_isCustomer : GoodIn wsX4_assign (va_wsS RX4 121 yX4_isCustomer wsX4_isCustomer) := goodIn_app (goodIn_of _ (by decide +kernel)) ggX4_assign_X4_isCustomer
set_option maxRecDepth 20000 in
theorem ggX4_assign_X4_refused : GoodIn wsX4_assign wsX4_refused := goodIn_r _ [19, 20, 69, 70, 71, 72, 73, 74, 75, 76, 77, 78, 79, 80, 81, 82, 83, 84, 85, 86, 87, 88, 89, 90, 91, 92] (by rfl) (by rfl)
set_option maxRecDepth 20000 in
theorem gX4_assign_X4_refused : GoodIn wsX4_assign (wsV RX4 124 RX4 yX4_refused wsX4_refused) := goodIn_app (goodIn_of _ (by decide +kernel)) ggX4_assign_X4_refused
set_option maxRecDepth 20000 in
theorem ggX4_assign_X4_payOthers : GoodIn wsX4_assign wsX4_payOthers := goodIn_r _ [24, 1, 3, 25, 26, 27, 28, 29, 30, 31, 7, 32, 33, 34, 35, 36, 37, 38, 39, 40, 10, 11, 12, 41, 42, 43, 44, 45, 46, 47, 48, 49, 50, 51, 52, 53, 54, 55, 56, 57, 58, 59, 60, 61, 62, 63, 64, 65, 66, 67, 68, 69, 70, 71, 72, 73, 74, 75, 76, 77, 78, 79, 80, 81, 82, 83, 84, 85, 86, 87, 88, 89, 90, 91, 92] (by rfl) (by rfl)
set_option maxRecDepth 20000 in
theorem gX4_assign_X4_payOthers : GoodIn wsX4_assign (wsV RX4 130 RX4 yX4_payOthers wsX4_payOthers) := goodIn_app (goodIn_of _ (by decide +kernel)) ggX4_assign_X4_payOthers
set_option maxRecDepth 20000 in
theorem ggX4_apply_X4_isReceipt : GoodIn wsX4_apply wsX4_isReceipt := goodIn_r _ [8, 9, 10, 11, 7, 12, 66, 67, 68, 69, 70, 71, 72, 73, 74, 75, 76, 77, 78, 79, 80, 81, 82, 83, 84, 85, 86, 87, 88, 89] (by rfl) (by rfl)
set_option maxRecDepth 20000 in
theorem gX4_apply_X4_isReceipt : GoodIn wsX4_apply (wsV RX4 134 RX4 yX4_isReceipt wsX4_isReceipt) := goodIn_app (goodIn_of _ (by decide +kernel)) ggX4_apply_X4_isReceipt
set_option maxRecDepth 20000 in
theorem ggX4_apply_X4_refused : GoodIn wsX4_apply wsX4_refused := goodIn_r _ [16, 17, 66, 67, 68, 69, 70, 71, 72, 73, 74, 75, 76, 77, 78, 79, 80, 81, 82, 83, 84, 85, 86, 87, 88, 89] (by rfl) (by rfl)
set_option maxRecDepth 20000 in
theorem gX4_apply_X4_refused : GoodIn wsX4_apply (wsV RX4 124 RX4 yX4_refused wsX4_refused) := goodIn_app (goodIn_of _ (by decide +kernel)) ggX4_apply_X4_refused
set_option maxRecDepth 20000 in
theorem ggX4_apply_X4_payOthers : GoodIn wsX4_apply wsX4_payOthers := goodIn_r _ [21, 1, 3, 22, 23, 24, 25, 26, 27, 28, 7, 29, 30, 31, 32, 33, 34, 35, 36, 37, 10, 11, 12, 38, 39, 40, 41, 42, 43, 44, 45, 46, 47, 48, 49, 50, 51, 52, 53, 54, 55, 56, 57, 58, 59, 60, 61, 62, 63, 64, 65, 66, 67, 68, 69, 70, 71, 72, 73, 74, 75, 76, 77, 78, 79, 80, 81, 82, 83, 84, 85, 86, 87, 88, 89] (by rfl) (by rfl)
set_option maxRecDepth 20000 in
theorem gX4_apply_X4_payOthers : GoodIn wsX4_apply (wsV RX4 130 RX4 yX4_payOthers wsX4_payOthers) := goodIn_app (goodIn_of _ (by decide +kernel)) ggX4_apply_X4_payOthers
set_option maxRecDepth 20000 in
theorem ggX4_payBack_X4_isReceipt : GoodIn wsX4_payBack wsX4_isReceipt := goodIn_r _ [8, 9, 10, 11, 7, 12, 18, 19, 20, 21, 22, 23, 24, 25, 26, 27, 28, 29, 30, 31, 32, 33, 34, 35, 36, 37, 38, 39, 40, 41] (by rfl) (by rfl)
set_option maxRecDepth 20000 in
theorem gX4_payBack_X4_isReceipt : GoodIn wsX4_payBack (wsV RX4 134 RX4 yX4_isReceipt wsX4_isReceipt) := goodIn_app (goodIn_of _ (by decide +kernel)) ggX4_payBack_X4_isReceipt
set_option maxRecDepth 20000 in
theorem ggX4_payBack_X4_refused : GoodIn wsX4_payBack wsX4_refused := goodIn_r _ [16, 17, 18, 19, 20, 21, 22, 23, 24, 25, 26, 27, 28, 29, 30, 31, 32, 33, 34, 35, 36, 37, 38, 39, 40, 41] (by rfl) (by rfl)
set_option maxRecDepth 20000 in
theorem gX4_payBack_X4_refused : GoodIn wsX4_payBack (wsV RX4 124 RX4 yX4_refused wsX4_refused) := goodIn_app (goodIn_of _ (by decide +kernel)) ggX4_payBack_X4_refused
set_option maxRecDepth 20000 in
theorem ggX4_bounce_X4_isReceipt : GoodIn wsX4_bounce wsX4_isReceipt := goodIn_r _ [16, 17, 18, 19, 15, 20, 26, 27, 28, 29, 30, 31, 32, 33, 34, 35, 36, 37, 38, 39, 40, 41, 42, 43, 44, 45, 46, 47, 48, 49] (by rfl) (by rfl)
set_option maxRecDepth 20000 in
theorem gX4_bounce_X4_isReceipt : GoodIn wsX4_bounce (wsV RX4 134 RX4 yX4_isReceipt wsX4_isReceipt) := goodIn_app (goodIn_of _ (by decide +kernel)) ggX4_bounce_X4_isReceipt
set_option maxRecDepth 20000 in
theorem ggX4_bounce_X4_refused : GoodIn wsX4_bounce wsX4_refused := goodIn_r _ [24, 25, 26, 27, 28, 29, 30, 31, 32, 33, 34, 35, 36, 37, 38, 39, 40, 41, 42, 43, 44, 45, 46, 47, 48, 49] (by rfl) (by rfl)
set_option maxRecDepth 20000 in
theorem gX4_bounce_X4_refused : GoodIn wsX4_bounce (wsV RX4 124 RX4 yX4_refused wsX4_refused) := goodIn_app (goodIn_of _ (by decide +kernel)) ggX4_bounce_X4_refused
set_option maxRecDepth 20000 in
theorem ggX4_settle_X4_isBill : GoodIn wsX4_settle wsX4_isBill := goodIn_r _ [8, 9, 10, 11, 7, 12, 18, 19, 20, 21, 22, 23, 24, 25, 26, 27, 28, 29, 30, 31, 32, 33, 34, 35, 36, 37, 38, 39, 40, 41] (by rfl) (by rfl)
set_option maxRecDepth 20000 in
theorem gX4_settle_X4_isBill : GoodIn wsX4_settle (wsV RX4 108 RX4 yX4_isBill wsX4_isBill) := goodIn_app (goodIn_of _ (by decide +kernel)) ggX4_settle_X4_isBill
set_option maxRecDepth 20000 in
theorem ggX4_settle_X4_refused : GoodIn wsX4_settle wsX4_refused := goodIn_r _ [16, 17, 18, 19, 20, 21, 22, 23, 24, 25, 26, 27, 28, 29, 30, 31, 32, 33, 34, 35, 36, 37, 38, 39, 40, 41] (by rfl) (by rfl)
set_option maxRecDepth 20000 in
theorem gX4_settle_X4_refused : GoodIn wsX4_settle (wsV RX4 124 RX4 yX4_refused wsX4_refused) := goodIn_app (goodIn_of _ (by decide +kernel)) ggX4_settle_X4_refused
set_option maxRecDepth 20000 in
theorem ggX4_advance_X4_in : GoodIn wsX4_advance wsX4_in := goodIn_r _ [5] (by rfl) (by rfl)
set_option maxRecDepth 20000 in
theorem gX4_advance_X4_in : GoodIn wsX4_advance (va_wsS RX4 75 yX4_in wsX4_in) := goodIn_app (goodIn_of _ (by decide +kernel)) ggX4_advance_X4_in
set_option maxRecDepth 20000 in
theorem ggX4_advance_X4_refused : GoodIn wsX4_advance wsX4_refused := goodIn_r _ [9, 10, 11, 12, 13, 14, 15, 16, 17, 18, 19, 20, 21, 22, 23, 24, 25, 26, 27, 28, 29, 30, 31, 32, 33, 34] (by rfl) (by rfl)
set_option maxRecDepth 20000 in
theorem gX4_advance_X4_refused : GoodIn wsX4_advance (wsV RX4 124 RX4 yX4_refused wsX4_refused) := goodIn_app (goodIn_of _ (by decide +kernel)) ggX4_advance_X4_refused
set_option maxRecDepth 20000 in
theorem ggX4_bills_X4_fine : GoodIn wsX4_bills wsX4_fine := goodIn_r _ [6, 7, 8, 9, 10, 11, 12, 13, 14, 15, 16, 17, 18, 19, 20, 21, 22, 23, 24, 25, 26, 27, 28, 29, 30, 31] (by rfl) (by rfl)
set_option maxRecDepth 20000 in
theorem gX4_bills_X4_fine : GoodIn wsX4_bills (wsV RX4 137 RX4 yX4_fine wsX4_fine) := goodIn_app (goodIn_of _ (by decide +kernel)) ggX4_bills_X4_fine
set_option maxRecDepth 20000 in
theorem ggX4_noBill_X4_isBill : GoodIn wsX4_noBill wsX4_isBill := goodIn_r _ [5, 6, 7, 8, 4, 9, 15, 16, 17, 18, 19, 20, 21, 22, 23, 24, 25, 26, 27, 28, 29, 30, 31, 32, 33, 34, 35, 36, 37, 38] (by rfl) (by rfl)
set_option maxRecDepth 20000 in
theorem gX4_noBill_X4_isBill : GoodIn wsX4_noBill (wsV RX4 108 RX4 yX4_isBill wsX4_isBill) := goodIn_app (goodIn_of _ (by decide +kernel)) ggX4_noBill_X4_isBill
set_option maxRecDepth 20000 in
theorem ggX4_noBill_X4_refused : GoodIn wsX4_noBill wsX4_refused := goodIn_r _ [13, 14, 15, 16, 17, 18, 19, 20, 21, 22, 23, 24, 25, 26, 27, 28, 29, 30, 31, 32, 33, 34, 35, 36, 37, 38] (by rfl) (by rfl)
set_option maxRecDepth 20000 in
theorem gX4_noBill_X4_refused : GoodIn wsX4_noBill (wsV RX4 124 RX4 yX4_refused wsX4_refused) := goodIn_app (goodIn_of _ (by decide +kernel)) ggX4_noBill_X4_refused
set_option maxRecDepth 20000 in
theorem ggX4_open_X4_noBill : GoodIn wsX4_open wsX4_noBill := goodIn_r _ [5, 6, 7, 8, 4, 9, 10, 11, 12, 13, 14, 15, 16, 17, 18, 28, 29, 30, 31, 32, 33, 34, 35, 36, 37, 38, 39, 40, 41, 42, 43, 44, 45, 46, 47, 48, 49, 50, 51] (by rfl) (by rfl)
set_option maxRecDepth 20000 in
theorem gX4_open_X4_noBill : GoodIn wsX4_open (wsV RX4 140 RX4 yX4_noBill wsX4_noBill) := goodIn_app (goodIn_of _ (by decide +kernel)) ggX4_open_X4_noBill
set_option maxRecDepth 20000 in
theorem ggX4_open_X4_openNow : GoodIn wsX4_open wsX4_openNow := goodIn_r _ [22, 23, 24, 25, 26, 27, 28, 29, 30, 31, 32, 33, 34, 35, 36, 37, 38, 39, 40, 41, 42, 43, 44, 45, 46, 47, 48, 49, 50, 51] (by rfl) (by rfl)
set_option maxRecDepth 20000 in
theorem gX4_open_X4_openNow : GoodIn wsX4_open (wsV RX4 85 RX4 yX4_openNow wsX4_openNow) := goodIn_app (goodIn_of _ (by decide +kernel)) ggX4_open_X4_openNow
set_option maxRecDepth 20000 in
theorem ggX4_due_X4_noBill : GoodIn wsX4_due wsX4_noBill := goodIn_r _ [5, 6, 7, 8, 4, 9, 10, 11, 12, 13, 14, 15, 16, 17, 18, 41, 42, 43, 44, 45, 46, 47, 48, 49, 50, 51, 52, 53, 54, 55, 56, 57, 58, 59, 60, 61, 62, 63, 64] (by rfl) (by rfl)
set_option maxRecDepth 20000 in
theorem gX4_due_X4_noBill : GoodIn wsX4_due (wsV RX4 140 RX4 yX4_noBill wsX4_noBill) := goodIn_app (goodIn_of _ (by decide +kernel)) ggX4_due_X4_noBill
set_option maxRecDepth 20000 in
theorem ggX4_due_X4_dueNow : GoodIn wsX4_due wsX4_dueNow := goodIn_r _ [22, 23, 24, 25, 4, 26, 27, 28, 29, 30, 31, 32, 33, 34, 35, 36, 37, 38, 39, 40, 41, 42, 43, 44, 45, 46, 47, 48, 49, 50, 51, 52, 53, 54, 55, 56, 57, 58, 59, 60, 61, 62, 63, 64] (by rfl) (by rfl)
set_option maxRecDepth 20000 in
theorem gX4_due_X4_dueNow : GoodIn wsX4_due (wsV RX4 97 RX4 yX4_dueNow wsX4_dueNow) := goodIn_app (goodIn_of _ (by decide +kernel)) ggX4_due_X4_dueNow
set_option maxRecDepth 20000 in
theorem ggX4_paid_X4_noBill : GoodIn wsX4_paid wsX4_noBill := goodIn_r _ [6, 7, 8, 9, 5, 10, 11, 12, 13, 14, 15, 16, 17, 18, 19, 20, 21, 22, 23, 24, 25, 26, 27, 28, 29, 30, 31, 32, 33, 34, 35, 36, 37, 38, 39, 40, 41, 42, 43] (by rfl) (by rfl)
set_option maxRecDepth 20000 in
theorem gX4_paid_X4_noBill : GoodIn wsX4_paid (wsV RX4 140 RX4 yX4_noBill wsX4_noBill) := goodIn_app (goodIn_of _ (by decide +kernel)) ggX4_paid_X4_noBill
set_option maxRecDepth 20000 in
theorem ggX4_taken_X4_noBill : GoodIn wsX4_taken wsX4_noBill := goodIn_r _ [6, 7, 8, 9, 5, 10, 11, 12, 13, 14, 15, 16, 17, 18, 19, 20, 21, 22, 23, 24, 25, 26, 27, 28, 29, 30, 31, 32, 33, 34, 35, 36, 37, 38, 39, 40, 41, 42, 43] (by rfl) (by rfl)
set_option maxRecDepth 20000 in
theorem gX4_taken_X4_noBill : GoodIn wsX4_taken (wsV RX4 140 RX4 yX4_noBill wsX4_noBill) := goodIn_app (goodIn_of _ (by decide +kernel)) ggX4_taken_X4_noBill
set_option maxRecDepth 20000 in
theorem ggX4_disputed_X4_noBill : GoodIn wsX4_disputed wsX4_noBill := goodIn_r _ [6, 7, 8, 9, 5, 10, 11, 12, 13, 14, 15, 16, 17, 18, 19, 20, 21, 22, 23, 24, 25, 26, 27, 28, 29, 30, 31, 32, 33, 34, 35, 36, 37, 38, 39, 40, 41, 42, 43] (by rfl) (by rfl)
set_option maxRecDepth 20000 in
theorem gX4_disputed_X4_noBill : GoodIn wsX4_disputed (wsV RX4 140 RX4 yX4_noBill wsX4_noBill) := goodIn_app (goodIn_of _ (by decide +kernel)) ggX4_disputed_X4_noBill
set_option maxRecDepth 20000 in
theorem ggX4_writtenOff_X4_noBill : GoodIn wsX4_writtenOff wsX4_noBill := goodIn_r _ [6, 7, 8, 9, 5, 10, 11, 12, 13, 14, 15, 16, 17, 18, 19, 20, 21, 22, 23, 24, 25, 26, 27, 28, 29, 30, 31, 32, 33, 34, 35, 36, 37, 38, 39, 40, 41, 42, 43] (by rfl) (by rfl)
set_option maxRecDepth 20000 in
theorem gX4_writtenOff_X4_noBill : GoodIn wsX4_writtenOff (wsV RX4 140 RX4 yX4_noBill wsX4_noBill) := goodIn_app (goodIn_of _ (by decide +kernel)) ggX4_writtenOff_X4_noBill
set_option maxRecDepth 20000 in
theorem ggX4_openOf_X4_openNow : GoodIn wsX4_openOf wsX4_openNow := goodIn_r _ [7, 8, 9, 10, 11, 12, 24, 25, 26, 27, 28, 29, 30, 31, 32, 33, 34, 35, 36, 37, 38, 39, 40, 41, 42, 43, 44, 45, 46, 47] (by rfl) (by rfl)
set_option maxRecDepth 20000 in
theorem gX4_openOf_X4_openNow : GoodIn wsX4_openOf (wsV RX4 85 RX4 yX4_openNow wsX4_openNow) := goodIn_app (goodIn_of _ (by decide +kernel)) ggX4_openOf_X4_openNow
set_option maxRecDepth 20000 in
theorem ggX4_openOf_X4_isCustomer : GoodIn wsX4_openOf wsX4_isCustomer := goodIn_r _ [15, 16, 17, 6, 18] (by rfl) (by rfl)
set_option maxRecDepth 20000 in
theorem gX4_openOf_X4_isCustomer : GoodIn wsX4_openOf (va_wsS RX4 121 yX4_isCustomer wsX4_isCustomer) := goodIn_app (goodIn_of _ (by decide +kernel)) ggX4_openOf_X4_isCustomer
set_option maxRecDepth 20000 in
theorem ggX4_openOf_X4_refused : GoodIn wsX4_openOf wsX4_refused := goodIn_r _ [22, 23, 24, 25, 26, 27, 28, 29, 30, 31, 32, 33, 34, 35, 36, 37, 38, 39, 40, 41, 42, 43, 44, 45, 46, 47] (by rfl) (by rfl)
set_option maxRecDepth 20000 in
theorem gX4_openOf_X4_refused : GoodIn wsX4_openOf (wsV RX4 124 RX4 yX4_refused wsX4_refused) := goodIn_app (goodIn_of _ (by decide +kernel)) ggX4_openOf_X4_refused
set_option maxRecDepth 20000 in
theorem ggX4_setFor_X4_isCustomer : GoodIn wsX4_setFor wsX4_isCustomer := goodIn_r _ [5, 6, 7, 4, 8] (by rfl) (by rfl)
set_option maxRecDepth 20000 in
theorem gX4_setFor_X4_isCustomer : GoodIn wsX4_setFor (va_wsS RX4 121 yX4_isCustomer wsX4_isCustomer) := goodIn_app (goodIn_of _ (by decide +kernel)) ggX4_setFor_X4_isCustomer
set_option maxRecDepth 20000 in
theorem ggX4_setFor_X4_in : GoodIn wsX4_setFor wsX4_in := goodIn_r _ [8] (by rfl) (by rfl)
set_option maxRecDepth 20000 in
theorem gX4_setFor_X4_in : GoodIn wsX4_setFor (va_wsS RX4 75 yX4_in wsX4_in) := goodIn_app (goodIn_of _ (by decide +kernel)) ggX4_setFor_X4_in
set_option maxRecDepth 20000 in
theorem ggX4_setFor_X4_refused : GoodIn wsX4_setFor wsX4_refused := goodIn_r _ [12, 13, 50, 51, 52, 53, 54, 55, 56, 57, 58, 59, 60, 61, 62, 63, 64, 65, 66, 67, 68, 69, 70, 71, 72, 73] (by rfl) (by rfl)
set_option maxRecDepth 20000 in
theorem gX4_setFor_X4_refused : GoodIn wsX4_setFor (wsV RX4 124 RX4 yX4_refused wsX4_refused) := goodIn_app (goodIn_of _ (by decide +kernel)) ggX4_setFor_X4_refused
set_option maxRecDepth 20000 in
theorem ggX4_setFor_X4_choose : GoodIn wsX4_setFor wsX4_choose := goodIn_r _ [17, 18, 1, 19, 20, 21, 4, 22, 23, 24, 25, 26, 27, 6, 7, 8, 28, 29, 30, 31, 32, 33, 34, 35, 36, 37, 38, 39, 40, 41, 42, 43, 44, 45, 46, 47, 48, 49, 50, 51, 52, 53, 54, 55, 56, 57, 58, 59, 60, 61, 62, 63, 64, 65, 66, 67, 68, 69, 70, 71, 72, 73] (by rfl) (by rfl)
set_option maxRecDepth 20000 in
theorem gX4_setFor_X4_choose : GoodIn wsX4_setFor (wsV RX4 116 RX4 yX4_choose wsX4_choose) := goodIn_app (goodIn_of _ (by decide +kernel)) ggX4_setFor_X4_choose
set_option maxRecDepth 20000 in
theorem ggX4_receipts_X4_fine : GoodIn wsX4_receipts wsX4_fine := goodIn_r _ [6, 7, 8, 9, 10, 11, 12, 13, 14, 15, 16, 17, 18, 19, 20, 21, 22, 23, 24, 25, 26, 27, 28, 29, 30, 31] (by rfl) (by rfl)
set_option maxRecDepth 20000 in
theorem gX4_receipts_X4_fine : GoodIn wsX4_receipts (wsV RX4 137 RX4 yX4_fine wsX4_fine) := goodIn_app (goodIn_of _ (by decide +kernel)) ggX4_receipts_X4_fine
set_option maxRecDepth 20000 in
theorem ggX4_noReceipt_X4_isReceipt : GoodIn wsX4_noReceipt wsX4_isReceipt := goodIn_r _ [5, 6, 7, 8, 4, 9, 15, 16, 17, 18, 19, 20, 21, 22, 23, 24, 25, 26, 27, 28, 29, 30, 31, 32, 33, 34, 35, 36, 37, 38] (by rfl) (by rfl)
set_option maxRecDepth 20000 in
theorem gX4_noReceipt_X4_isReceipt : GoodIn wsX4_noReceipt (wsV RX4 134 RX4 yX4_isReceipt wsX4_isReceipt) := goodIn_app (goodIn_of _ (by decide +kernel)) ggX4_noReceipt_X4_isReceipt
set_option maxRecDepth 20000 in
theorem ggX4_noReceipt_X4_refused : GoodIn wsX4_noReceipt wsX4_refused := goodIn_r _ [13, 14, 15, 16, 17, 18, 19, 20, 21, 22, 23, 24, 25, 26, 27, 28, 29, 30, 31, 32, 33, 34, 35, 36, 37, 38] (by rfl) (by rfl)
set_option maxRecDepth 20000 in
theorem gX4_noReceipt_X4_refused : GoodIn wsX4_noReceipt (wsV RX4 124 RX4 yX4_refused wsX4_refused) := goodIn_app (goodIn_of _ (by decide +kernel)) ggX4_noReceipt_X4_refused
set_option maxRecDepth 20000 in
theorem ggX4_customerOf_X4_noReceipt : GoodIn wsX4_customerOf wsX4_noReceipt := goodIn_r _ [6, 7, 8, 9, 5, 10, 11, 12, 13, 14, 15, 16, 17, 18, 19, 20, 21, 22, 23, 24, 25, 26, 27, 28, 29, 30, 31, 32, 33, 34, 35, 36, 37, 38, 39, 40, 41, 42, 43] (by rfl) (by rfl)
set_option maxRecDepth 20000 in
theorem gX4_customerOf_X4_noReceipt : GoodIn wsX4_customerOf (wsV RX4 143 RX4 yX4_noReceipt wsX4_noReceipt) := goodIn_app (goodIn_of _ (by decide +kernel)) ggX4_customerOf_X4_noReceipt
set_option maxRecDepth 20000 in
theorem ggX4_appliedTo_X4_isReceipt : GoodIn wsX4_appliedTo wsX4_isReceipt := goodIn_r _ [6, 7, 8, 9, 5, 10, 21, 22, 23, 24, 25, 26, 27, 28, 29, 30, 31, 32, 33, 34, 35, 36, 37, 38, 39, 40, 41, 42, 43, 44] (by rfl) (by rfl)
set_option maxRecDepth 20000 in
theorem gX4_appliedTo_X4_isReceipt : GoodIn wsX4_appliedTo (wsV RX4 134 RX4 yX4_isReceipt wsX4_isReceipt) := goodIn_app (goodIn_of _ (by decide +kernel)) ggX4_appliedTo_X4_isReceipt
set_option maxRecDepth 20000 in
theorem ggX4_appliedTo_X4_isBill : GoodIn wsX4_appliedTo wsX4_isBill := goodIn_r _ [14, 15, 8, 9, 5, 10, 21, 22, 23, 24, 25, 26, 27, 28, 29, 30, 31, 32, 33, 34, 35, 36, 37, 38, 39, 40, 41, 42, 43, 44] (by rfl) (by rfl)
set_option maxRecDepth 20000 in
theorem gX4_appliedTo_X4_isBill : GoodIn wsX4_appliedTo (wsV RX4 108 RX4 yX4_isBill wsX4_isBill) := goodIn_app (goodIn_of _ (by decide +kernel)) ggX4_appliedTo_X4_isBill
set_option maxRecDepth 20000 in
theorem ggX4_appliedTo_X4_refused : GoodIn wsX4_appliedTo wsX4_refused := goodIn_r _ [19, 20, 21, 22, 23, 24, 25, 26, 27, 28, 29, 30, 31, 32, 33, 34, 35, 36, 37, 38, 39, 40, 41, 42, 43, 44] (by rfl) (by rfl)
set_option maxRecDepth 20000 in
theorem gX4_appliedTo_X4_refused : GoodIn wsX4_appliedTo (wsV RX4 124 RX4 yX4_refused wsX4_refused) := goodIn_app (goodIn_of _ (by decide +kernel)) ggX4_appliedTo_X4_refused
set_option maxRecDepth 20000 in
theorem ggX4_unapplied_X4_noReceipt : GoodIn wsX4_unapplied wsX4_noReceipt := goodIn_r _ [6, 7, 8, 9, 5, 10, 11, 12, 13, 14, 15, 16, 17, 18, 19, 20, 21, 22, 23, 24, 25, 26, 27, 28, 29, 30, 31, 32, 33, 34, 35, 36, 37, 38, 39, 40, 41, 42, 43] (by rfl) (by rfl)
set_option maxRecDepth 20000 in
theorem gX4_unapplied_X4_noReceipt : GoodIn wsX4_unapplied (wsV RX4 143 RX4 yX4_noReceipt wsX4_noReceipt) := goodIn_app (goodIn_of _ (by decide +kernel)) ggX4_unapplied_X4_noReceipt
set_option maxRecDepth 20000 in
theorem ggX4_hasBounced_X4_noReceipt : GoodIn wsX4_hasBounced wsX4_noReceipt := goodIn_r _ [6, 7, 8, 9, 5, 10, 11, 12, 13, 14, 15, 16, 17, 18, 19, 20, 21, 22, 23, 24, 25, 26, 27, 28, 29, 30, 31, 32, 33, 34, 35, 36, 37, 38, 39, 40, 41, 42, 43] (by rfl) (by rfl)
set_option maxRecDepth 20000 in
theorem gX4_hasBounced_X4_noReceipt : GoodIn wsX4_hasBounced (wsV RX4 143 RX4 yX4_noReceipt wsX4_noReceipt) := goodIn_app (goodIn_of _ (by decide +kernel)) ggX4_hasBounced_X4_noReceipt
set_option maxRecDepth 20000 in
theorem ggX4_day_X4_fine : GoodIn wsX4_day wsX4_fine := goodIn_r _ [6, 7, 8, 9, 10, 11, 12, 13, 14, 15, 16, 17, 18, 19, 20, 21, 22, 23, 24, 25, 26, 27, 28, 29, 30, 31] (by rfl) (by rfl)
set_option maxRecDepth 20000 in
theorem gX4_day_X4_fine : GoodIn wsX4_day (wsV RX4 137 RX4 yX4_fine wsX4_fine) := goodIn_app (goodIn_of _ (by decide +kernel)) ggX4_day_X4_fine
set_option maxRecDepth 20000 in
theorem ggX4_received_X4_all : GoodIn wsX4_received wsX4_all := goodIn_r _ [6, 7, 13, 14, 15, 16, 17, 18, 19, 20, 21, 22, 23, 24, 25, 26, 27, 28, 29, 30, 31, 32, 33, 34, 35, 36] (by rfl) (by rfl)
set_option maxRecDepth 20000 in
theorem gX4_received_X4_all : GoodIn wsX4_received (wsV RX4 146 RX4 yX4_all wsX4_all) := goodIn_app (goodIn_of _ (by decide +kernel)) ggX4_received_X4_all
set_option maxRecDepth 20000 in
theorem ggX4_received_X4_fine : GoodIn wsX4_received wsX4_fine := goodIn_r _ [11, 12, 13, 14, 15, 16, 17, 18, 19, 20, 21, 22, 23, 24, 25, 26, 27, 28, 29, 30, 31, 32, 33, 34, 35, 36] (by rfl) (by rfl)
set_option maxRecDepth 20000 in
theorem gX4_received_X4_fine : GoodIn wsX4_received (wsV RX4 137 RX4 yX4_fine wsX4_fine) := goodIn_app (goodIn_of _ (by decide +kernel)) ggX4_received_X4_fine
set_option maxRecDepth 20000 in
theorem ggX4_applied_X4_all : GoodIn wsX4_applied wsX4_all := goodIn_r _ [8, 9, 20, 21, 22, 23, 24, 25, 26, 27, 28, 29, 30, 31, 32, 33, 34, 35, 36, 37, 38, 39, 40, 41, 42, 43] (by rfl) (by rfl)
set_option maxRecDepth 20000 in
theorem gX4_applied_X4_all : GoodIn wsX4_applied (wsV RX4 146 RX4 yX4_all wsX4_all) := goodIn_app (goodIn_of _ (by decide +kernel)) ggX4_applied_X4_all
set_option maxRecDepth 20000 in
theorem ggX4_applied_X4_allBounced : GoodIn wsX4_applied wsX4_allBounced := goodIn_r _ [13, 9, 14, 1, 20, 21, 22, 23, 24, 25, 26, 27, 28, 29, 30, 31, 32, 33, 34, 35, 36, 37, 38, 39, 40, 41, 42, 43] (by rfl) (by rfl)
set_option maxRecDepth 20000 in
theorem gX4_applied_X4_allBounced : GoodIn wsX4_applied (wsV RX4 150 RX4 yX4_allBounced wsX4_allBounced) := goodIn_app (goodIn_of _ (by decide +kernel)) ggX4_applied_X4_allBounced
set_option maxRecDepth 20000 in
theorem ggX4_applied_X4_fine : GoodIn wsX4_applied wsX4_fine := goodIn_r _ [18, 19, 20, 21, 22, 23, 24, 25, 26, 27, 28, 29, 30, 31, 32, 33, 34, 35, 36, 37, 38, 39, 40, 41, 42, 43] (by rfl) (by rfl)
set_option maxRecDepth 20000 in
theorem gX4_applied_X4_fine : GoodIn wsX4_applied (wsV RX4 137 RX4 yX4_fine wsX4_fine) := goodIn_app (goodIn_of _ (by decide +kernel)) ggX4_applied_X4_fine
set_option maxRecDepth 20000 in
theorem ggX4_allUnapplied_X4_all : GoodIn wsX4_allUnapplied wsX4_all := goodIn_r _ [6, 7, 13, 14, 15, 16, 17, 18, 19, 20, 21, 22, 23, 24, 25, 26, 27, 28, 29, 30, 31, 32, 33, 34, 35, 36] (by rfl) (by rfl)
set_option maxRecDepth 20000 in
theorem gX4_allUnapplied_X4_all : GoodIn wsX4_allUnapplied (wsV RX4 146 RX4 yX4_all wsX4_all) := goodIn_app (goodIn_of _ (by decide +kernel)) ggX4_allUnapplied_X4_all
set_option maxRecDepth 20000 in
theorem ggX4_allUnapplied_X4_fine : GoodIn wsX4_allUnapplied wsX4_fine := goodIn_r _ [11, 12, 13, 14, 15, 16, 17, 18, 19, 20, 21, 22, 23, 24, 25, 26, 27, 28, 29, 30, 31, 32, 33, 34, 35, 36] (by rfl) (by rfl)
set_option maxRecDepth 20000 in
theorem gX4_allUnapplied_X4_fine : GoodIn wsX4_allUnapplied (wsV RX4 137 RX4 yX4_fine wsX4_fine) := goodIn_app (goodIn_of _ (by decide +kernel)) ggX4_allUnapplied_X4_fine
set_option maxRecDepth 20000 in
theorem ggX4_paidBack_X4_all : GoodIn wsX4_paidBack wsX4_all := goodIn_r _ [6, 7, 13, 14, 15, 16, 17, 18, 19, 20, 21, 22, 23, 24, 25, 26, 27, 28, 29, 30, 31, 32, 33, 34, 35, 36] (by rfl) (by rfl)
set_option maxRecDepth 20000 in
theorem gX4_paidBack_X4_all : GoodIn wsX4_paidBack (wsV RX4 146 RX4 yX4_all wsX4_all) := goodIn_app (goodIn_of _ (by decide +kernel)) ggX4_paidBack_X4_all
set_option maxRecDepth 20000 in
theorem ggX4_paidBack_X4_fine : GoodIn wsX4_paidBack wsX4_fine := goodIn_r _ [11, 12, 13, 14, 15, 16, 17, 18, 19, 20, 21, 22, 23, 24, 25, 26, 27, 28, 29, 30, 31, 32, 33, 34, 35, 36] (by rfl) (by rfl)
set_option maxRecDepth 20000 in
theorem gX4_paidBack_X4_fine : GoodIn wsX4_paidBack (wsV RX4 137 RX4 yX4_fine wsX4_fine) := goodIn_app (goodIn_of _ (by decide +kernel)) ggX4_paidBack_X4_fine
set_option maxRecDepth 20000 in
theorem ggX4_bounced_X4_allBounced : GoodIn wsX4_bounced wsX4_allBounced := goodIn_r _ [5, 6, 7, 8, 14, 15, 16, 17, 18, 19, 20, 21, 22, 23, 24, 25, 26, 27, 28, 29, 30, 31, 32, 33, 34, 35, 36, 37] (by rfl) (by rfl)
set_option maxRecDepth 20000 in
theorem gX4_bounced_X4_allBounced : GoodIn wsX4_bounced (wsV RX4 150 RX4 yX4_allBounced wsX4_allBounced) := goodIn_app (goodIn_of _ (by decide +kernel)) ggX4_bounced_X4_allBounced
set_option maxRecDepth 20000 in
theorem ggX4_bounced_X4_fine : GoodIn wsX4_bounced wsX4_fine := goodIn_r _ [12, 13, 14, 15, 16, 17, 18, 19, 20, 21, 22, 23, 24, 25, 26, 27, 28, 29, 30, 31, 32, 33, 34, 35, 36, 37] (by rfl) (by rfl)
set_option maxRecDepth 20000 in
theorem gX4_bounced_X4_fine : GoodIn wsX4_bounced (wsV RX4 137 RX4 yX4_fine wsX4_fine) := goodIn_app (goodIn_of _ (by decide +kernel)) ggX4_bounced_X4_fine
set_option maxRecDepth 20000 in
theorem ggL_bill_X3_bill : GoodIn wsL_bill wsX3_bill := goodIn_ca (goodIn_ca (goodIn_ca (goodIn_r _ [8, 9, 10, 11, 12, 13, 14, 15, 16, 7, 17, 18, 19, 20, 21, 22, 23, 24, 25, 26, 27, 28, 29, 30, 31, 32, 33, 34, 35, 36, 37, 38, 39, 40, 41, 42, 43, 44, 45, 46, 47, 48, 49, 50, 51, 52, 53, 54, 55, 56, 57] (by rfl) (by rfl)) (goodIn_sub (fun _ h => List.mem_cons_of_mem _ (List.mem_append_left _ (List.mem_append_left _ (List.mem_append_right _ h)))) (by rfl))) (goodIn_sub (fun _ h => List.mem_cons_of_mem _ (List.mem_append_left _ (List.mem_append_right _ h))) (by rfl))) (goodIn_sub (fun _ h => List.mem_cons_of_mem _ (List.mem_append_right _ h)) (by rfl))
set_option maxRecDepth 20000 in
theorem gL_bill_X3_bill : GoodIn wsL_bill (wsV RL 7 RX3 yX3_bill wsX3_bill) := goodIn_app (goodIn_of _ (by decide +kernel)) ggL_bill_X3_bill
set_option maxRecDepth 20000 in
theorem ggL_receive_X3_receive : GoodIn wsL_receive wsX3_receive := goodIn_ca (goodIn_ca (goodIn_ca (goodIn_r _ [8, 9, 10, 11, 12, 13, 14, 15, 7, 16, 17, 18, 19, 20, 21, 22, 23, 24, 25, 26, 27, 28, 29, 30, 31, 32, 33, 34, 35, 36, 37, 38, 39, 40, 41, 42, 43, 44, 45, 46, 47, 48, 49, 50, 51, 52, 53, 54, 55, 56, 57, 58, 59, 60, 61, 62, 63, 64, 65, 66, 67, 68, 69, 70, 71, 72, 73, 74, 75, 76, 77, 78, 79, 80, 81, 82, 83, 84, 85, 86, 87, 88, 89, 90, 91, 92, 93, 94, 95, 96, 97, 98, 99, 100, 101, 102, 103, 104, 105, 106, 107, 108, 109, 110, 111, 112, 113, 114, 115, 116, 117, 118, 119, 120, 121, 122, 123, 124, 125, 126, 127, 128, 129, 130, 131, 132, 133, 134, 135, 136, 137, 138, 139, 140, 141, 142, 143, 144, 145, 146, 147, 148, 149, 150, 151, 152, 153, 154, 155, 156, 157, 158, 159, 160, 161, 162, 163, 164, 165, 166, 167, 168, 169, 170, 171, 172, 173, 174, 175, 176, 177, 178] (by rfl) (by rfl)) (goodIn_sub (fun _ h => List.mem_cons_of_mem _ (List.mem_append_left _ (List.mem_append_left _ (List.mem_append_right _ h)))) (by rfl))) (goodIn_sub (fun _ h => List.mem_cons_of_mem _ (List.mem_append_left _ (List.mem_append_right _ h))) (by rfl))) (goodIn_sub (fun _ h => List.mem_cons_of_mem _ (List.mem_append_right _ h)) (by rfl))
set_option maxRecDepth 20000 in
theorem gL_receive_X3_receive : GoodIn wsL_receive (wsV RL 19 RX3 yX3_receive wsX3_receive) := goodIn_app (goodIn_of _ (by decide +kernel)) ggL_receive_X3_receive
set_option maxRecDepth 20000 in
theorem ggL_assign_X3_assign : GoodIn wsL_assign wsX3_assign := goodIn_ca (goodIn_ca (goodIn_r _ [7, 8, 9, 10, 11, 12, 13, 14, 15, 6, 16, 17, 18, 19, 20, 21, 22, 23, 24, 25, 26, 27, 28, 29, 30, 31, 32, 33, 34, 35, 36, 37, 38, 39, 40, 41, 42, 43, 44, 45, 46, 47, 48, 49, 50, 51, 52, 53, 54, 55, 56, 57, 58, 59, 60, 61, 62, 63, 64, 65, 66, 67, 68, 69, 70, 71, 72, 73, 74, 75, 76, 77, 78, 79, 80, 81, 82, 83, 84, 85, 86, 87, 88, 89, 90, 91, 92, 93, 94, 95, 96, 97, 98, 99, 100, 101, 102, 103, 104, 105, 106, 107, 108, 109, 110, 111, 112, 113, 114, 115, 116, 117, 118, 119, 120, 121, 122, 123, 124, 125, 126, 127, 128, 129, 130, 131, 132, 133, 134, 135, 136, 137, 138, 139, 140, 141, 142, 143, 144, 145, 146, 147, 148, 149, 150, 151, 152, 153, 154, 155, 156, 157] (by rfl) (by rfl)) (goodIn_sub (fun _ h => List.mem_cons_of_mem _ (List.mem_append_left _ (List.mem_append_right _ h))) (by rfl))) (goodIn_sub (fun _ h => List.mem_cons_of_mem _ (List.mem_append_right _ h)) (by rfl))
set_option maxRecDepth 20000 in
theorem gL_assign_X3_assign : GoodIn wsL_assign (wsV RL 23 RX3 yX3_assign wsX3_assign) := goodIn_app (goodIn_of _ (by decide +kernel)) ggL_assign_X3_assign
set_option maxRecDepth 20000 in
theorem ggL_apply_X3_apply : GoodIn wsL_apply wsX3_apply := goodIn_ca (goodIn_ca (goodIn_r _ [7, 8, 9, 10, 11, 12, 13, 14, 15, 6, 16, 17, 18, 19, 20, 21, 22, 23, 24, 25, 26, 27, 28, 29, 30, 31, 32, 33, 34, 35, 36, 37, 38, 39, 40, 41, 42, 43, 44, 45, 46, 47, 48, 49, 50, 51, 52, 53, 54, 55, 56, 57, 58, 59, 60, 61, 62, 63, 64, 65, 66, 67, 68, 69, 70, 71, 72, 73, 74, 75, 76, 77, 78, 79, 80, 81, 82, 83, 84, 85, 86, 87, 88, 89, 90, 91, 92, 93, 94, 95, 96, 97, 98, 99, 100, 101, 102, 103, 104, 105, 106, 107, 108, 109, 110, 111, 112, 113, 114, 115, 116, 117, 118, 119, 120, 121, 122, 123, 124, 125, 126, 127, 128, 129, 130, 131, 132, 133, 134, 135, 136, 137, 138, 139, 140, 141, 142, 143, 144, 145, 146, 147, 148, 149, 150, 151, 152, 153, 154] (by rfl) (by rfl)) (goodIn_sub (fun _ h => List.mem_cons_of_mem _ (List.mem_append_left _ (List.mem_append_right _ h))) (by rfl))) (goodIn_sub (fun _ h => List.mem_cons_of_mem _ (List.mem_append_right _ h)) (by rfl))
set_option maxRecDepth 20000 in
theorem gL_apply_X3_apply : GoodIn wsL_apply (wsV RL 27 RX3 yX3_apply wsX3_apply) := goodIn_app (goodIn_of _ (by decide +kernel)) ggL_apply_X3_apply
set_option maxRecDepth 20000 in
theorem ggL_payBack_X3_payBack : GoodIn wsL_payBack wsX3_payBack := goodIn_ca (goodIn_ca (goodIn_r _ [7, 8, 9, 10, 11, 12, 13, 14, 6, 15, 16, 17, 18, 19, 20, 21, 22, 23, 24, 25, 26, 27, 28, 29, 30, 31, 32, 33, 34, 35, 36, 37, 38, 39, 40, 41, 42, 43] (by rfl) (by rfl)) (goodIn_sub (fun _ h => List.mem_cons_of_mem _ (List.mem_append_left _ (List.mem_append_right _ h))) (by rfl))) (goodIn_sub (fun _ h => List.mem_cons_of_mem _ (List.mem_append_right _ h)) (by rfl))
set_option maxRecDepth 20000 in
theorem gL_payBack_X3_payBack : GoodIn wsL_payBack (wsV RL 31 RX3 yX3_payBack wsX3_payBack) := goodIn_app (goodIn_of _ (by decide +kernel)) ggL_payBack_X3_payBack
set_option maxRecDepth 20000 in
theorem ggL_bounce_X3_bounce : GoodIn wsL_bounce wsX3_bounce := goodIn_ca (goodIn_ca (goodIn_r _ [7, 8, 9, 10, 11, 12, 13, 14, 15, 16, 6, 17, 18, 19, 20, 21, 22, 23, 24, 25, 26, 27, 28, 29, 30, 31, 32, 33, 34, 35, 36, 37, 38, 39, 40, 41, 42, 43, 44, 45, 46, 47, 48, 49, 50, 51, 52, 53, 54, 55, 56, 57, 58, 59, 60, 61, 62, 63, 64, 65, 66, 67, 68, 69, 70, 71, 72, 73, 74, 75, 76, 77, 78, 79, 80, 81, 82, 83, 84, 85, 86, 87, 88, 89, 90] (by rfl) (by rfl)) (goodIn_sub (fun _ h => List.mem_cons_of_mem _ (List.mem_append_left _ (List.mem_append_right _ h))) (by rfl))) (goodIn_sub (fun _ h => List.mem_cons_of_mem _ (List.mem_append_right _ h)) (by rfl))
set_option maxRecDepth 20000 in
theorem gL_bounce_X3_bounce : GoodIn wsL_bounce (wsV RL 34 RX3 yX3_bounce wsX3_bounce) := goodIn_app (goodIn_of _ (by decide +kernel)) ggL_bounce_X3_bounce
set_option maxRecDepth 20000 in
theorem ggL_settle_X3_settle : GoodIn wsL_settle wsX3_settle := goodIn_ca (goodIn_ca (goodIn_r _ [7, 8, 9, 10, 11, 12, 13, 14, 6, 15, 16, 17, 18, 19, 20, 21, 22, 23, 24, 25, 26, 27, 28, 29, 30, 31, 32, 33, 34, 35, 36, 37, 38, 39, 40, 41, 42] (by rfl) (by rfl)) (goodIn_sub (fun _ h => List.mem_cons_of_mem _ (List.mem_append_left _ (List.mem_append_right _ h))) (by rfl))) (goodIn_sub (fun _ h => List.mem_cons_of_mem _ (List.mem_append_right _ h)) (by rfl))
set_option maxRecDepth 20000 in
theorem gL_settle_X3_settle : GoodIn wsL_settle (wsV RL 37 RX3 yX3_settle wsX3_settle) := goodIn_app (goodIn_of _ (by decide +kernel)) ggL_settle_X3_settle
set_option maxRecDepth 20000 in
theorem ggL_advance_X3_advance : GoodIn wsL_advance wsX3_advance := goodIn_ca (goodIn_r _ [6, 7, 8, 9, 5, 10, 11, 12, 13, 14, 15, 16] (by rfl) (by rfl)) (goodIn_sub (fun _ h => List.mem_cons_of_mem _ (List.mem_append_right _ h)) (by rfl))
set_option maxRecDepth 20000 in
theorem gL_advance_X3_advance : GoodIn wsL_advance (wsV RL 41 RX3 yX3_advance wsX3_advance) := goodIn_app (goodIn_of _ (by decide +kernel)) ggL_advance_X3_advance
set_option maxRecDepth 20000 in
theorem ggL_open_X3_open : GoodIn wsL_open wsX3_open := goodIn_ca (goodIn_r _ [6, 7, 8, 9, 10, 5, 11, 12, 13, 14, 15, 16, 17, 18, 19, 20, 21, 22, 23, 24, 25, 26, 27, 28, 29, 30, 31, 32, 33, 34, 35, 36, 37, 38, 39, 40] (by rfl) (by rfl)) (goodIn_sub (fun _ h => List.mem_cons_of_mem _ (List.mem_append_right _ h)) (by rfl))
set_option maxRecDepth 20000 in
theorem gL_open_X3_open : GoodIn wsL_open (wsV RL 44 RX3 yX3_open wsX3_open) := goodIn_app (goodIn_of _ (by decide +kernel)) ggL_open_X3_open
set_option maxRecDepth 20000 in
theorem ggL_due_X3_due : GoodIn wsL_due wsX3_due := goodIn_ca (goodIn_r _ [6, 7, 8, 9, 10, 11, 5, 12, 13, 14, 15, 16, 17, 18, 19, 20, 21, 22, 23, 24, 25, 26, 27, 28, 29, 30, 31, 32, 33, 34, 35, 36, 37, 38, 39, 40, 41, 42, 43, 44, 45, 46, 47, 48, 49, 50, 51] (by rfl) (by rfl)) (goodIn_sub (fun _ h => List.mem_cons_of_mem _ (List.mem_append_right _ h)) (by rfl))
set_option maxRecDepth 20000 in
theorem gL_due_X3_due : GoodIn wsL_due (wsV RL 47 RX3 yX3_due wsX3_due) := goodIn_app (goodIn_of _ (by decide +kernel)) ggL_due_X3_due
set_option maxRecDepth 20000 in
theorem ggL_paid_X3_paid : GoodIn wsL_paid wsX3_paid := goodIn_ca (goodIn_r _ [6, 7, 8, 9, 10, 11, 5, 12, 13, 14, 15, 16, 17, 18, 19, 20, 21, 22, 23, 24, 25, 26, 27, 28, 29, 30, 31] (by rfl) (by rfl)) (goodIn_sub (fun _ h => List.mem_cons_of_mem _ (List.mem_append_right _ h)) (by rfl))
set_option maxRecDepth 20000 in
theorem gL_paid_X3_paid : GoodIn wsL_paid (wsV RL 50 RX3 yX3_paid wsX3_paid) := goodIn_app (goodIn_of _ (by decide +kernel)) ggL_paid_X3_paid
set_option maxRecDepth 20000 in
theorem ggL_taken_X3_taken : GoodIn wsL_taken wsX3_taken := goodIn_ca (goodIn_r _ [6, 7, 8, 9, 10, 11, 5, 12, 13, 14, 15, 16, 17, 18, 19, 20, 21, 22, 23, 24, 25, 26, 27, 28, 29, 30, 31] (by rfl) (by rfl)) (goodIn_sub (fun _ h => List.mem_cons_of_mem _ (List.mem_append_right _ h)) (by rfl))
set_option maxRecDepth 20000 in
theorem gL_taken_X3_taken : GoodIn wsL_taken (wsV RL 53 RX3 yX3_taken wsX3_taken) := goodIn_app (goodIn_of _ (by decide +kernel)) ggL_taken_X3_taken
set_option maxRecDepth 20000 in
theorem ggL_disputed_X3_disputed : GoodIn wsL_disputed wsX3_disputed := goodIn_ca (goodIn_r _ [6, 7, 8, 9, 10, 11, 5, 12, 13, 14, 15, 16, 17, 18, 19, 20, 21, 22, 23, 24, 25, 26, 27, 28, 29, 30, 31] (by rfl) (by rfl)) (goodIn_sub (fun _ h => List.mem_cons_of_mem _ (List.mem_append_right _ h)) (by rfl))
set_option maxRecDepth 20000 in
theorem gL_disputed_X3_disputed : GoodIn wsL_disputed (wsV RL 56 RX3 yX3_disputed wsX3_disputed) := goodIn_app (goodIn_of _ (by decide +kernel)) ggL_disputed_X3_disputed
set_option maxRecDepth 20000 in
theorem ggL_writtenOff_X3_writtenOff : GoodIn wsL_writtenOff wsX3_writtenOff := goodIn_ca (goodIn_r _ [6, 7, 8, 9, 10, 11, 5, 12, 13, 14, 15, 16, 17, 18, 19, 20, 21, 22, 23, 24, 25, 26, 27, 28, 29, 30, 31] (by rfl) (by rfl)) (goodIn_sub (fun _ h => List.mem_cons_of_mem _ (List.mem_append_right _ h)) (by rfl))
set_option maxRecDepth 20000 in
theorem gL_writtenOff_X3_writtenOff : GoodIn wsL_writtenOff (wsV RL 59 RX3 yX3_writtenOff wsX3_writtenOff) := goodIn_app (goodIn_of _ (by decide +kernel)) ggL_writtenOff_X3_writtenOff
set_option maxRecDepth 20000 in
theorem ggL_openOf_X3_openOf : GoodIn wsL_openOf wsX3_openOf := goodIn_ca (goodIn_r _ [6, 7, 8, 9, 10, 11, 5, 12, 13, 14, 15, 16, 17, 18, 19, 20, 21, 22, 23, 24, 25, 26, 27, 28, 29, 30, 31, 32, 33, 34, 35, 36, 37, 38, 39, 40] (by rfl) (by rfl)) (goodIn_sub (fun _ h => List.mem_cons_of_mem _ (List.mem_append_right _ h)) (by rfl))
set_option maxRecDepth 20000 in
theorem gL_openOf_X3_openOf : GoodIn wsL_openOf (wsV RL 62 RX3 yX3_openOf wsX3_openOf) := goodIn_app (goodIn_of _ (by decide +kernel)) ggL_openOf_X3_openOf
set_option maxRecDepth 20000 in
theorem ggL_setFor_X3_setFor : GoodIn wsL_setFor wsX3_setFor := goodIn_ca (goodIn_ca (goodIn_r _ [7, 8, 9, 10, 11, 12, 13, 14, 15, 6, 16, 17, 18, 19, 20, 21, 22, 23, 24, 25, 26, 27, 28, 29, 30, 31, 32, 33, 34, 35, 36, 37, 38, 39, 40, 41, 42, 43, 44, 45, 46, 47, 48, 49, 50, 51, 52, 53, 54, 55, 56, 57, 58, 59, 60, 61, 62, 63, 64, 65, 66, 67, 68, 69, 70, 71, 72, 73, 74, 75, 76, 77, 78, 79, 80, 81, 82, 83, 84, 85, 86, 87, 88, 89, 90, 91, 92, 93, 94, 95, 96, 97, 98, 99, 100, 101] (by rfl) (by rfl)) (goodIn_sub (fun _ h => List.mem_cons_of_mem _ (List.mem_append_left _ (List.mem_append_right _ h))) (by rfl))) (goodIn_sub (fun _ h => List.mem_cons_of_mem _ (List.mem_append_right _ h)) (by rfl))
set_option maxRecDepth 20000 in
theorem gL_setFor_X3_setFor : GoodIn wsL_setFor (wsV RL 65 RX3 yX3_setFor wsX3_setFor) := goodIn_app (goodIn_of _ (by decide +kernel)) ggL_setFor_X3_setFor
set_option maxRecDepth 20000 in
theorem ggL_customerOf_X3_customerOf : GoodIn wsL_customerOf wsX3_customerOf := goodIn_ca (goodIn_r _ [6, 7, 8, 9, 10, 11, 5, 12, 13, 14, 15, 16, 17, 18, 19, 20, 21, 22, 23, 24, 25, 26, 27, 28] (by rfl) (by rfl)) (goodIn_sub (fun _ h => List.mem_cons_of_mem _ (List.mem_append_right _ h)) (by rfl))
set_option maxRecDepth 20000 in
theorem gL_customerOf_X3_customerOf : GoodIn wsL_customerOf (wsV RL 68 RX3 yX3_customerOf wsX3_customerOf) := goodIn_app (goodIn_of _ (by decide +kernel)) ggL_customerOf_X3_customerOf
set_option maxRecDepth 20000 in
theorem ggL_appliedTo_X3_appliedTo : GoodIn wsL_appliedTo wsX3_appliedTo := goodIn_ca (goodIn_r _ [6, 7, 8, 9, 10, 5, 11, 12, 13, 14, 15, 16, 17, 18, 19, 20, 21, 22, 23, 24, 25, 26, 27, 28, 29, 30, 31, 32, 33, 34, 35, 36, 37, 38, 39, 40, 41, 42, 43, 44, 45, 46, 47, 48, 49, 50, 51, 52, 53, 54] (by rfl) (by rfl)) (goodIn_sub (fun _ h => List.mem_cons_of_mem _ (List.mem_append_right _ h)) (by rfl))
set_option maxRecDepth 20000 in
theorem gL_appliedTo_X3_appliedTo : GoodIn wsL_appliedTo (wsV RL 71 RX3 yX3_appliedTo wsX3_appliedTo) := goodIn_app (goodIn_of _ (by decide +kernel)) ggL_appliedTo_X3_appliedTo
set_option maxRecDepth 20000 in
theorem ggL_unapplied_X3_unapplied : GoodIn wsL_unapplied wsX3_unapplied := goodIn_ca (goodIn_r _ [6, 7, 8, 9, 10, 11, 5, 12, 13, 14, 15, 16, 17, 18, 19, 20, 21, 22, 23, 24, 25, 26, 27, 28] (by rfl) (by rfl)) (goodIn_sub (fun _ h => List.mem_cons_of_mem _ (List.mem_append_right _ h)) (by rfl))
set_option maxRecDepth 20000 in
theorem gL_unapplied_X3_unapplied : GoodIn wsL_unapplied (wsV RL 74 RX3 yX3_unapplied wsX3_unapplied) := goodIn_app (goodIn_of _ (by decide +kernel)) ggL_unapplied_X3_unapplied
set_option maxRecDepth 20000 in
theorem ggL_hasBounced_X3_hasBounced : GoodIn wsL_hasBounced wsX3_hasBounced := goodIn_ca (goodIn_r _ [6, 7, 8, 9, 10, 11, 5, 12, 13, 14, 15, 16, 17, 18, 19, 20, 21, 22, 23, 24, 25, 26, 27, 28] (by rfl) (by rfl)) (goodIn_sub (fun _ h => List.mem_cons_of_mem _ (List.mem_append_right _ h)) (by rfl))
set_option maxRecDepth 20000 in
theorem gL_hasBounced_X3_hasBounced : GoodIn wsL_hasBounced (wsV RL 77 RX3 yX3_hasBounced wsX3_hasBounced) := goodIn_app (goodIn_of _ (by decide +kernel)) ggL_hasBounced_X3_hasBounced
set_option maxRecDepth 20000 in
theorem ggL_law_X3_init : GoodIn wsL_law wsX3_init := goodIn_r _ [9, 10, 11, 12, 13, 14, 15, 16, 17, 18, 19, 20, 21, 22, 23, 24, 25, 26, 27, 28, 29, 30, 31, 32, 33, 34, 35, 36, 37, 38, 39, 40, 41, 42, 43, 44, 45, 46, 47, 48, 49, 50, 51, 52, 53, 54, 55, 56, 57, 58, 663, 664, 665, 666, 667, 668, 669, 670, 671, 672, 673, 674, 635, 636, 637, 638, 675, 676, 677, 678, 679, 680, 681, 682, 683, 684, 685, 686, 687] (by rfl) (by rfl)
set_option maxRecDepth 20000 in
theorem gL_law_X3_init : GoodIn wsL_law (wsX3_init) := ggL_law_X3_init
set_option maxRecDepth 20000 in
theorem ggL_law_X4_init : GoodIn wsL_law wsX4_init := goodIn_r _ [61, 62, 11, 12, 29, 63, 64, 65, 66, 67, 68, 69, 70, 71, 72, 73, 74, 75, 76, 77, 78, 49, 79, 80, 81, 82, 639, 640, 641, 642, 643, 644, 645, 646, 647, 648, 649, 650, 651, 652, 653, 654, 655, 656, 657, 658, 659, 660, 661, 662] (by rfl) (by rfl)
set_option maxRecDepth 20000 in
theorem gL_law_X4_init : GoodIn wsL_law (wsX4_init) := ggL_law_X4_init
set_option maxRecDepth 20000 in
theorem ggL_law_L_bill : GoodIn wsL_law wsL_bill := goodIn_ca (goodIn_ca (goodIn_ca (goodIn_r _ [86, 87, 88, 89, 90, 91, 92, 2, 93, 94, 95, 96, 16, 97, 25, 98, 99, 100, 101, 102, 103, 104, 105, 106, 107, 108, 109, 110, 111, 112, 113, 114, 15, 115, 116, 30, 31, 32, 33, 34, 37, 39, 635, 636, 637, 638, 663, 664, 665, 666, 667, 668, 669, 670, 671, 672, 673, 674] (by rfl) (by rfl)) (goodIn_sub (fun _ h => List.mem_append_left _ (List.mem_append_left _ (List.mem_append_right _ h))) (by rfl))) (goodIn_sub (fun _ h => List.mem_append_left _ (List.mem_append_right _ h)) (by rfl))) (goodIn_sub (fun _ h => List.mem_append_right _ h) (by rfl))
set_option maxRecDepth 20000 in
theorem gL_law_L_bill : GoodIn wsL_law (va_wsS RL 85 yL_bill wsL_bill) := goodIn_app (goodIn_of _ (by decide +kernel)) ggL_law_L_bill
set_option maxRecDepth 20000 in
theorem ggL_law_X4_bill : GoodIn wsL_law wsX4_bill := goodIn_r _ [120, 121, 122, 63, 64, 65, 66, 123, 67, 68, 71, 73, 124, 125, 5, 126, 127, 128, 129, 130, 131, 132, 133, 134, 639, 640, 641, 642, 643, 644, 645, 646, 647, 648, 649, 650, 651, 652, 653, 654, 655, 656, 657, 658, 659, 660, 661, 662] (by rfl) (by rfl)
set_option maxRecDepth 20000 in
theorem gL_law_X4_bill : GoodIn wsL_law (wsV RL 90 RX4 yX4_bill wsX4_bill) := goodIn_app (goodIn_of _ (by decide +kernel)) ggL_law_X4_bill
set_option maxRecDepth 20000 in
theorem ggL_law_X4_thrown : GoodIn wsL_law wsX4_thrown := goodIn_r _ [138, 134, 639, 640, 641, 642, 643, 644, 645, 646, 647, 648, 649, 650, 651, 652, 653, 654, 655, 656, 657, 658, 659, 660, 661, 662] (by rfl) (by rfl)
set_option maxRecDepth 20000 in
theorem gL_law_X4_thrown : GoodIn wsL_law (wsV RL 91 RX4 yX4_thrown wsX4_thrown) := goodIn_app (goodIn_of _ (by decide +kernel)) ggL_law_X4_thrown
set_option maxRecDepth 20000 in
theorem ggL_law_L_receive : GoodIn wsL_law wsL_receive := goodIn_ca (goodIn_ca (goodIn_ca (goodIn_r _ [141, 87, 88, 89, 142, 143, 144, 2, 145, 94, 95, 96, 20, 146, 98, 99, 100, 101, 102, 103, 104, 105, 106, 107, 147, 148, 149, 19, 150, 151, 44, 45, 47, 152, 153, 154, 155, 156, 16, 97, 157, 158, 159, 160, 161, 15, 162, 116, 32, 30, 163, 164, 165, 166, 31, 35, 36, 38, 40, 167, 168, 169, 170, 171, 172, 173, 174, 25, 175, 176, 177, 178, 179, 33, 180, 181, 182, 183, 34, 184, 185, 186, 187, 37, 188, 189, 190, 191, 51, 52, 46, 192, 193, 194, 195, 196, 197, 198, 39, 199, 200, 201, 202, 203, 204, 205, 206, 24, 207, 208, 209, 210, 211, 212, 213, 214, 23, 215, 216, 58, 217, 218, 219, 220, 56, 57, 221, 222, 223, 224, 225, 226, 227, 228, 229, 230, 231, 232, 233, 234, 235, 236, 237, 238, 239, 240, 241, 242, 243, 244, 635, 636, 637, 638, 675, 676, 677, 678, 679, 680, 681, 682, 683, 663, 664, 665, 666, 667, 668, 669, 670, 671, 672, 673, 674, 684, 685, 686, 687] (by rfl) (by rfl)) (goodIn_sub (fun _ h => List.mem_append_left _ (List.mem_append_left _ (List.mem_append_right _ h))) (by rfl))) (goodIn_sub (fun _ h => List.mem_append_left _ (List.mem_append_right _ h)) (by rfl))) (goodIn_sub (fun _ h => List.mem_append_right _ h) (by rfl))
set_option maxRecDepth 20000 in
theorem gL_law_L_receive : GoodIn wsL_law (va_wsS RL 95 yL_receive wsL_receive) := goodIn_app (goodIn_of _ (by decide +kernel)) ggL_law_L_receive
set_option maxRecDepth 20000 in
theorem ggL_law_X4_receive : GoodIn wsL_law wsX4_receive := goodIn_r _ [248, 121, 249, 75, 76, 77, 124, 125, 5, 126, 127, 128, 129, 130, 131, 132, 133, 134, 250, 251, 252, 253, 122, 65, 63, 254, 255, 256, 257, 64, 69, 70, 72, 74, 258, 259, 260, 261, 71, 80, 81, 262, 263, 264, 265, 266, 267, 268, 269, 123, 66, 68, 67, 270, 271, 272, 273, 274, 73, 275, 276, 277, 278, 82, 279, 280, 281, 282, 283, 284, 285, 286, 287, 288, 289, 290, 639, 640, 641, 642, 643, 644, 645, 646, 647, 648, 649, 650, 651, 652, 653, 654, 655, 656, 657, 658, 659, 660, 661, 662] (by rfl) (by rfl)
set_option maxRecDepth 20000 in
theorem gL_law_X4_receive : GoodIn wsL_law (wsV RL 98 RX4 yX4_receive wsX4_receive) := goodIn_app (goodIn_of _ (by decide +kernel)) ggL_law_X4_receive
set_option maxRecDepth 20000 in
theorem ggL_law_L_assign : GoodIn wsL_law wsL_assign := goodIn_ca (goodIn_ca (goodIn_r _ [293, 87, 89, 294, 295, 296, 2, 297, 94, 95, 20, 156, 157, 298, 299, 300, 301, 101, 102, 146, 98, 99, 100, 302, 303, 304, 305, 306, 199, 200, 201, 202, 203, 204, 205, 206, 24, 207, 16, 97, 208, 209, 210, 211, 25, 212, 213, 214, 23, 215, 216, 58, 167, 168, 169, 15, 170, 30, 163, 164, 165, 166, 31, 35, 36, 38, 40, 176, 177, 178, 179, 33, 180, 181, 182, 183, 34, 217, 218, 219, 220, 56, 57, 221, 222, 223, 224, 225, 226, 227, 228, 229, 230, 231, 232, 233, 234, 235, 236, 237, 238, 239, 240, 171, 172, 173, 174, 175, 184, 185, 186, 187, 37, 188, 189, 190, 19, 191, 51, 52, 46, 47, 192, 193, 194, 241, 242, 243, 244, 635, 636, 637, 638, 675, 676, 677, 678, 679, 680, 681, 682, 683, 684, 685, 686, 687, 663, 664, 665, 666, 667, 668, 669, 670, 671, 672, 673, 674] (by rfl) (by rfl)) (goodIn_sub (fun _ h => List.mem_append_left _ (List.mem_append_left _ (List.mem_append_right _ h))) (by rfl))) (goodIn_sub (fun _ h => List.mem_append_left _ (List.mem_append_right _ h)) (by rfl))
set_option maxRecDepth 20000 in
theorem gL_law_L_assign : GoodIn wsL_law (va_wsS RL 99 yL_assign wsL_assign) := goodIn_app (goodIn_of _ (by decide +kernel)) ggL_law_L_assign
set_option maxRecDepth 20000 in
theorem ggL_law_X4_assign : GoodIn wsL_law wsX4_assign := goodIn_r _ [310, 76, 79, 77, 311, 312, 313, 5, 314, 249, 124, 125, 126, 127, 128, 129, 130, 131, 132, 133, 134, 275, 276, 277, 278, 82, 122, 66, 63, 279, 280, 281, 282, 283, 284, 285, 286, 287, 288, 289, 290, 254, 255, 256, 257, 64, 69, 70, 72, 74, 262, 263, 264, 265, 266, 267, 268, 269, 123, 68, 67, 270, 258, 259, 260, 261, 71, 80, 81, 639, 640, 641, 642, 643, 644, 645, 646, 647, 648, 649, 650, 651, 652, 653, 654, 655, 656, 657, 658, 659, 660, 661, 662] (by rfl) (by rfl)
set_option maxRecDepth 20000 in
theorem gL_law_X4_assign : GoodIn wsL_law (wsV RL 102 RX4 yX4_assign wsX4_assign) := goodIn_app (goodIn_of _ (by decide +kernel)) ggL_law_X4_assign
set_option maxRecDepth 20000 in
theorem ggL_law_L_apply : GoodIn wsL_law wsL_apply := goodIn_ca (goodIn_ca (goodIn_r _ [317, 87, 89, 318, 319, 320, 2, 321, 94, 95, 20, 156, 157, 298, 299, 300, 301, 101, 102, 146, 302, 303, 304, 305, 306, 199, 200, 201, 202, 203, 204, 205, 206, 24, 207, 16, 97, 208, 209, 210, 211, 25, 212, 213, 214, 23, 215, 216, 58, 167, 168, 169, 15, 170, 30, 163, 164, 165, 166, 31, 35, 36, 38, 40, 176, 177, 178, 179, 33, 180, 181, 182, 183, 34, 217, 218, 219, 220, 56, 57, 221, 222, 223, 224, 225, 226, 227, 228, 229, 230, 231, 232, 233, 234, 235, 236, 237, 238, 239, 240, 171, 172, 173, 174, 175, 184, 185, 186, 187, 37, 188, 189, 190, 19, 191, 51, 52, 46, 47, 192, 193, 194, 241, 242, 243, 244, 635, 636, 637, 638, 675, 676, 677, 678, 679, 680, 681, 682, 683, 684, 685, 686, 687, 663, 664, 665, 666, 667, 668, 669, 670, 671, 672, 673, 674] (by rfl) (by rfl)) (goodIn_sub (fun _ h => List.mem_append_left _ (List.mem_append_left _ (List.mem_append_right _ h))) (by rfl))) (goodIn_sub (fun _ h => List.mem_append_left _ (List.mem_append_right _ h)) (by rfl))
set_option maxRecDepth 20000 in
theorem gL_law_L_apply : GoodIn wsL_law (va_wsS RL 103 yL_apply wsL_apply) := goodIn_app (goodIn_of _ (by decide +kernel)) ggL_law_L_apply
set_option maxRecDepth 20000 in
theorem ggL_law_X4_apply : GoodIn wsL_law wsX4_apply := goodIn_r _ [325, 76, 79, 77, 311, 312, 313, 5, 314, 249, 124, 125, 126, 130, 131, 132, 133, 134, 275, 276, 277, 278, 82, 122, 66, 63, 279, 280, 281, 282, 283, 284, 285, 286, 287, 288, 289, 290, 254, 255, 256, 257, 64, 69, 70, 72, 74, 262, 263, 264, 265, 266, 267, 268, 269, 123, 68, 67, 270, 258, 259, 260, 261, 71, 80, 81, 639, 640, 641, 642, 643, 644, 645, 646, 647, 648, 649, 650, 651, 652, 653, 654, 655, 656, 657, 658, 659, 660, 661, 662] (by rfl) (by rfl)
set_option maxRecDepth 20000 in
theorem gL_law_X4_apply : GoodIn wsL_law (wsV RL 106 RX4 yX4_apply wsX4_apply) := goodIn_app (goodIn_of _ (by decide +kernel)) ggL_law_X4_apply
set_option maxRecDepth 20000 in
theorem ggL_law_L_payBack : GoodIn wsL_law wsL_payBack := goodIn_ca (goodIn_ca (goodIn_r _ [328, 87, 89, 329, 330, 331, 2, 332, 94, 95, 20, 157, 298, 299, 300, 301, 101, 102, 146, 302, 303, 304, 305, 306, 333, 334, 335, 19, 336, 47, 48, 635, 636, 637, 638, 675, 676, 677, 678, 679, 680, 681, 682, 683] (by rfl) (by rfl)) (goodIn_sub (fun _ h => List.mem_append_left _ (List.mem_append_left _ (List.mem_append_right _ h))) (by rfl))) (goodIn_sub (fun _ h => List.mem_append_left _ (List.mem_append_right _ h)) (by rfl))
set_option maxRecDepth 20000 in
theorem gL_law_L_payBack : GoodIn wsL_law (va_wsS RL 107 yL_payBack wsL_payBack) := goodIn_app (goodIn_of _ (by decide +kernel)) ggL_law_L_payBack
set_option maxRecDepth 20000 in
theorem ggL_law_X4_payBack : GoodIn wsL_law wsX4_payBack := goodIn_r _ [340, 79, 77, 78, 311, 312, 313, 5, 314, 249, 124, 125, 126, 130, 131, 132, 133, 134, 639, 640, 641, 642, 643, 644, 645, 646, 647, 648, 649, 650, 651, 652, 653, 654, 655, 656, 657, 658, 659, 660, 661, 662] (by rfl) (by rfl)
set_option maxRecDepth 20000 in
theorem gL_law_X4_payBack : GoodIn wsL_law (wsV RL 109 RX4 yX4_payBack wsX4_payBack) := goodIn_app (goodIn_of _ (by decide +kernel)) ggL_law_X4_payBack
set_option maxRecDepth 20000 in
theorem ggL_law_L_bounce : GoodIn wsL_law wsL_bounce := goodIn_ca (goodIn_ca (goodIn_r _ [343, 87, 89, 344, 345, 346, 2, 347, 94, 95, 20, 348, 16, 97, 298, 299, 300, 301, 101, 102, 146, 302, 303, 304, 305, 306, 349, 350, 351, 19, 352, 52, 192, 193, 194, 353, 354, 355, 356, 51, 357, 358, 359, 15, 360, 35, 37, 36, 39, 361, 362, 363, 364, 38, 40, 365, 366, 367, 368, 46, 369, 370, 371, 372, 47, 50, 635, 636, 637, 638, 675, 676, 677, 678, 679, 680, 681, 682, 683, 663, 664, 665, 666, 667, 668, 669, 670, 671, 672, 673, 674] (by rfl) (by rfl)) (goodIn_sub (fun _ h => List.mem_append_left _ (List.mem_append_left _ (List.mem_append_right _ h))) (by rfl))) (goodIn_sub (fun _ h => List.mem_append_left _ (List.mem_append_right _ h)) (by rfl))
set_option maxRecDepth 20000 in
theorem gL_law_L_bounce : GoodIn wsL_law (va_wsS RL 110 yL_bounce wsL_bounce) := goodIn_app (goodIn_of _ (by decide +kernel)) ggL_law_L_bounce
set_option maxRecDepth 20000 in
theorem ggL_law_X4_bounce : GoodIn wsL_law wsX4_bounce := goodIn_r _ [376, 79, 78, 122, 81, 69, 80, 71, 70, 73, 72, 77, 311, 312, 313, 5, 314, 249, 124, 125, 126, 130, 131, 132, 133, 134, 639, 640, 641, 642, 643, 644, 645, 646, 647, 648, 649, 650, 651, 652, 653, 654, 655, 656, 657, 658, 659, 660, 661, 662] (by rfl) (by rfl)
set_option maxRecDepth 20000 in
theorem gL_law_X4_bounce : GoodIn wsL_law (wsV RL 112 RX4 yX4_bounce wsX4_bounce) := goodIn_app (goodIn_of _ (by decide +kernel)) ggL_law_X4_bounce
set_option maxRecDepth 20000 in
theorem ggL_law_L_settle : GoodIn wsL_law wsL_settle := goodIn_ca (goodIn_ca (goodIn_r _ [379, 87, 89, 380, 381, 382, 2, 383, 94, 95, 16, 384, 385, 386, 387, 388, 101, 102, 97, 389, 362, 363, 15, 364, 38, 40, 39, 635, 636, 637, 638, 663, 664, 665, 666, 667, 668, 669, 670, 671, 672, 673, 674] (by rfl) (by rfl)) (goodIn_sub (fun _ h => List.mem_append_left _ (List.mem_append_left _ (List.mem_append_right _ h))) (by rfl))) (goodIn_sub (fun _ h => List.mem_append_left _ (List.mem_append_right _ h)) (by rfl))
set_option maxRecDepth 20000 in
theorem gL_law_L_settle : GoodIn wsL_law (va_wsS RL 113 yL_settle wsL_settle) := goodIn_app (goodIn_of _ (by decide +kernel)) ggL_law_L_settle
set_option maxRecDepth 20000 in
theorem ggL_law_X4_settle : GoodIn wsL_law wsX4_settle := goodIn_r _ [393, 72, 74, 73, 287, 288, 289, 5, 290, 122, 124, 125, 126, 130, 131, 132, 133, 134, 639, 640, 641, 642, 643, 644, 645, 646, 647, 648, 649, 650, 651, 652, 653, 654, 655, 656, 657, 658, 659, 660, 661, 662] (by rfl) (by rfl)
set_option maxRecDepth 20000 in
theorem gL_law_X4_settle : GoodIn wsL_law (wsV RL 116 RX4 yX4_settle wsX4_settle) := goodIn_app (goodIn_of _ (by decide +kernel)) ggL_law_X4_settle
set_option maxRecDepth 20000 in
theorem ggL_law_L_advance : GoodIn wsL_law wsL_advance := goodIn_ca (goodIn_r _ [396, 88, 397, 398, 399, 2, 400, 25, 103, 104, 105, 106, 107, 635, 636, 637, 638] (by rfl) (by rfl)) (goodIn_sub (fun _ h => List.mem_append_right _ h) (by rfl))
set_option maxRecDepth 20000 in
theorem gL_law_L_advance : GoodIn wsL_law (va_wsS RL 117 yL_advance wsL_advance) := goodIn_app (goodIn_of _ (by decide +kernel)) ggL_law_L_advance
set_option maxRecDepth 20000 in
theorem ggL_law_X4_advance : GoodIn wsL_law wsX4_advance := goodIn_r _ [404, 123, 124, 125, 5, 126, 130, 131, 132, 133, 134, 639, 640, 641, 642, 643, 644, 645, 646, 647, 648, 649, 650, 651, 652, 653, 654, 655, 656, 657, 658, 659, 660, 661, 662] (by rfl) (by rfl)
set_option maxRecDepth 20000 in
theorem gL_law_X4_advance : GoodIn wsL_law (wsV RL 119 RX4 yX4_advance wsX4_advance) := goodIn_app (goodIn_of _ (by decide +kernel)) ggL_law_X4_advance
set_option maxRecDepth 20000 in
theorem ggL_law_X3_bills : GoodIn wsL_law wsX3_bills := goodIn_r _ [408, 16, 97, 635, 636, 637, 638, 663, 664, 665, 666, 667, 668, 669, 670, 671, 672, 673, 674] (by rfl) (by rfl)
set_option maxRecDepth 20000 in
theorem gL_law_X3_bills : GoodIn wsL_law (wsV RL 120 RX3 yX3_bills wsX3_bills) := goodIn_app (goodIn_of _ (by decide +kernel)) ggL_law_X3_bills
set_option maxRecDepth 20000 in
theorem ggL_law_X4_bills : GoodIn wsL_law wsX4_bills := goodIn_r _ [412, 122, 413, 414, 415, 5, 416, 134, 639, 640, 641, 642, 643, 644, 645, 646, 647, 648, 649, 650, 651, 652, 653, 654, 655, 656, 657, 658, 659, 660, 661, 662] (by rfl) (by rfl)
set_option maxRecDepth 20000 in
theorem gL_law_X4_bills : GoodIn wsL_law (wsV RL 123 RX4 yX4_bills wsX4_bills) := goodIn_app (goodIn_of _ (by decide +kernel)) ggL_law_X4_bills
set_option maxRecDepth 20000 in
theorem ggL_law_L_open : GoodIn wsL_law wsL_open := goodIn_ca (goodIn_r _ [419, 87, 420, 421, 422, 2, 423, 16, 385, 386, 387, 388, 101, 102, 97, 424, 164, 165, 15, 166, 31, 35, 36, 38, 40, 635, 636, 637, 638, 663, 664, 665, 666, 667, 668, 669, 670, 671, 672, 673, 674] (by rfl) (by rfl)) (goodIn_sub (fun _ h => List.mem_append_left _ (List.mem_append_right _ h)) (by rfl))
set_option maxRecDepth 20000 in
theorem gL_law_L_open : GoodIn wsL_law (va_wsS RL 124 yL_open wsL_open) := goodIn_app (goodIn_of _ (by decide +kernel)) ggL_law_L_open
set_option maxRecDepth 20000 in
theorem ggL_law_X4_open : GoodIn wsL_law wsX4_open := goodIn_r _ [428, 429, 430, 431, 5, 432, 287, 288, 289, 290, 122, 124, 125, 126, 130, 131, 132, 133, 134, 254, 255, 256, 257, 64, 69, 70, 72, 74, 639, 640, 641, 642, 643, 644, 645, 646, 647, 648, 649, 650, 651, 652, 653, 654, 655, 656, 657, 658, 659, 660, 661, 662] (by rfl) (by rfl)
set_option maxRecDepth 20000 in
theorem gL_law_X4_open : GoodIn wsL_law (wsV RL 126 RX4 yX4_open wsX4_open) := goodIn_app (goodIn_of _ (by decide +kernel)) ggL_law_X4_open
set_option maxRecDepth 20000 in
theorem ggL_law_L_due : GoodIn wsL_law wsL_due := goodIn_ca (goodIn_r _ [435, 87, 436, 437, 438, 2, 439, 16, 25, 385, 386, 387, 388, 101, 102, 97, 176, 177, 178, 15, 179, 33, 163, 164, 165, 166, 31, 35, 36, 38, 40, 180, 181, 182, 183, 34, 635, 636, 637, 638, 663, 664, 665, 666, 667, 668, 669, 670, 671, 672, 673, 674] (by rfl) (by rfl)) (goodIn_sub (fun _ h => List.mem_append_left _ (List.mem_append_right _ h)) (by rfl))
set_option maxRecDepth 20000 in
theorem gL_law_L_due : GoodIn wsL_law (va_wsS RL 127 yL_due wsL_due) := goodIn_app (goodIn_of _ (by decide +kernel)) ggL_law_L_due
set_option maxRecDepth 20000 in
theorem ggL_law_X4_due : GoodIn wsL_law wsX4_due := goodIn_r _ [443, 429, 430, 431, 5, 432, 287, 288, 289, 290, 122, 124, 125, 126, 130, 131, 132, 133, 134, 262, 263, 264, 265, 254, 255, 256, 257, 64, 69, 70, 72, 74, 266, 267, 268, 269, 123, 66, 68, 67, 270, 639, 640, 641, 642, 643, 644, 645, 646, 647, 648, 649, 650, 651, 652, 653, 654, 655, 656, 657, 658, 659, 660, 661, 662] (by rfl) (by rfl)
set_option maxRecDepth 20000 in
theorem gL_law_X4_due : GoodIn wsL_law (wsV RL 129 RX4 yX4_due wsX4_due) := goodIn_app (goodIn_of _ (by decide +kernel)) ggL_law_X4_due
set_option maxRecDepth 20000 in
theorem ggL_law_L_paid : GoodIn wsL_law wsL_paid := goodIn_ca (goodIn_r _ [446, 87, 447, 448, 449, 2, 450, 16, 175, 385, 386, 387, 388, 101, 102, 97, 635, 636, 637, 638, 663, 664, 665, 666, 667, 668, 669, 670, 671, 672, 673, 674] (by rfl) (by rfl)) (goodIn_sub (fun _ h => List.mem_append_left _ (List.mem_append_right _ h)) (by rfl))
set_option maxRecDepth 20000 in
theorem gL_law_L_paid : GoodIn wsL_law (va_wsS RL 130 yL_paid wsL_paid) := goodIn_app (goodIn_of _ (by decide +kernel)) ggL_law_L_paid
set_option maxRecDepth 20000 in
theorem ggL_law_X4_paid : GoodIn wsL_law wsX4_paid := goodIn_r _ [454, 69, 429, 430, 431, 5, 432, 287, 288, 289, 290, 122, 124, 125, 126, 130, 131, 132, 133, 134, 639, 640, 641, 642, 643, 644, 645, 646, 647, 648, 649, 650, 651, 652, 653, 654, 655, 656, 657, 658, 659, 660, 661, 662] (by rfl) (by rfl)
set_option maxRecDepth 20000 in
theorem gL_law_X4_paid : GoodIn wsL_law (wsV RL 132 RX4 yX4_paid wsX4_paid) := goodIn_app (goodIn_of _ (by decide +kernel)) ggL_law_X4_paid
set_option maxRecDepth 20000 in
theorem ggL_law_L_taken : GoodIn wsL_law wsL_taken := goodIn_ca (goodIn_r _ [457, 87, 458, 459, 460, 2, 461, 16, 462, 385, 386, 387, 388, 101, 102, 97, 635, 636, 637, 638, 663, 664, 665, 666, 667, 668, 669, 670, 671, 672, 673, 674] (by rfl) (by rfl)) (goodIn_sub (fun _ h => List.mem_append_left _ (List.mem_append_right _ h)) (by rfl))
set_option maxRecDepth 20000 in
theorem gL_law_L_taken : GoodIn wsL_law (va_wsS RL 133 yL_taken wsL_taken) := goodIn_app (goodIn_of _ (by decide +kernel)) ggL_law_L_taken
set_option maxRecDepth 20000 in
theorem ggL_law_X4_taken : GoodIn wsL_law wsX4_taken := goodIn_r _ [466, 70, 429, 430, 431, 5, 432, 287, 288, 289, 290, 122, 124, 125, 126, 130, 131, 132, 133, 134, 639, 640, 641, 642, 643, 644, 645, 646, 647, 648, 649, 650, 651, 652, 653, 654, 655, 656, 657, 658, 659, 660, 661, 662] (by rfl) (by rfl)
set_option maxRecDepth 20000 in
theorem gL_law_X4_taken : GoodIn wsL_law (wsV RL 135 RX4 yX4_taken wsX4_taken) := goodIn_app (goodIn_of _ (by decide +kernel)) ggL_law_X4_taken
set_option maxRecDepth 20000 in
theorem ggL_law_L_disputed : GoodIn wsL_law wsL_disputed := goodIn_ca (goodIn_r _ [469, 87, 470, 471, 472, 2, 473, 16, 384, 385, 386, 387, 388, 101, 102, 97, 635, 636, 637, 638, 663, 664, 665, 666, 667, 668, 669, 670, 671, 672, 673, 674] (by rfl) (by rfl)) (goodIn_sub (fun _ h => List.mem_append_left _ (List.mem_append_right _ h)) (by rfl))
set_option maxRecDepth 20000 in
theorem gL_law_L_disputed : GoodIn wsL_law (va_wsS RL 136 yL_disputed wsL_disputed) := goodIn_app (goodIn_of _ (by decide +kernel)) ggL_law_L_disputed
set_option maxRecDepth 20000 in
theorem ggL_law_X4_disputed : GoodIn wsL_law wsX4_disputed := goodIn_r _ [477, 72, 429, 430, 431, 5, 432, 287, 288, 289, 290, 122, 124, 125, 126, 130, 131, 132, 133, 134, 639, 640, 641, 642, 643, 644, 645, 646, 647, 648, 649, 650, 651, 652, 653, 654, 655, 656, 657, 658, 659, 660, 661, 662] (by rfl) (by rfl)
set_option maxRecDepth 20000 in
theorem gL_law_X4_disputed : GoodIn wsL_law (wsV RL 138 RX4 yX4_disputed wsX4_disputed) := goodIn_app (goodIn_of _ (by decide +kernel)) ggL_law_X4_disputed
set_option maxRecDepth 20000 in
theorem ggL_law_L_writtenOff : GoodIn wsL_law wsL_writtenOff := goodIn_ca (goodIn_r _ [480, 87, 481, 482, 483, 2, 484, 16, 485, 385, 386, 387, 388, 101, 102, 97, 635, 636, 637, 638, 663, 664, 665, 666, 667, 668, 669, 670, 671, 672, 673, 674] (by rfl) (by rfl)) (goodIn_sub (fun _ h => List.mem_append_left _ (List.mem_append_right _ h)) (by rfl))
set_option maxRecDepth 20000 in
theorem gL_law_L_writtenOff : GoodIn wsL_law (va_wsS RL 139 yL_writtenOff wsL_writtenOff) := goodIn_app (goodIn_of _ (by decide +kernel)) ggL_law_L_writtenOff
set_option maxRecDepth 20000 in
theorem ggL_law_X4_writtenOff : GoodIn wsL_law wsX4_writtenOff := goodIn_r _ [489, 74, 429, 430, 431, 5, 432, 287, 288, 289, 290, 122, 124, 125, 126, 130, 131, 132, 133, 134, 639, 640, 641, 642, 643, 644, 645, 646, 647, 648, 649, 650, 651, 652, 653, 654, 655, 656, 657, 658, 659, 660, 661, 662] (by rfl) (by rfl)
set_option maxRecDepth 20000 in
theorem gL_law_X4_writtenOff : GoodIn wsL_law (wsV RL 141 RX4 yX4_writtenOff wsX4_writtenOff) := goodIn_app (goodIn_of _ (by decide +kernel)) ggL_law_X4_writtenOff
set_option maxRecDepth 20000 in
theorem ggL_law_L_openOf : GoodIn wsL_law wsL_openOf := goodIn_ca (goodIn_r _ [492, 87, 493, 494, 495, 2, 496, 16, 97, 497, 98, 99, 100, 101, 102, 424, 164, 165, 15, 166, 31, 35, 36, 38, 40, 635, 636, 637, 638, 663, 664, 665, 666, 667, 668, 669, 670, 671, 672, 673, 674] (by rfl) (by rfl)) (goodIn_sub (fun _ h => List.mem_append_left _ (List.mem_append_right _ h)) (by rfl))
set_option maxRecDepth 20000 in
theorem gL_law_L_openOf : GoodIn wsL_law (va_wsS RL 142 yL_openOf wsL_openOf) := goodIn_app (goodIn_of _ (by decide +kernel)) ggL_law_L_openOf
set_option maxRecDepth 20000 in
theorem ggL_law_X4_openOf : GoodIn wsL_law wsX4_openOf := goodIn_r _ [501, 122, 63, 254, 255, 256, 5, 257, 64, 69, 70, 72, 74, 127, 128, 129, 124, 125, 126, 130, 131, 132, 133, 134, 639, 640, 641, 642, 643, 644, 645, 646, 647, 648, 649, 650, 651, 652, 653, 654, 655, 656, 657, 658, 659, 660, 661, 662] (by rfl) (by rfl)
set_option maxRecDepth 20000 in
theorem gL_law_X4_openOf : GoodIn wsL_law (wsV RL 144 RX4 yX4_openOf wsX4_openOf) := goodIn_app (goodIn_of _ (by decide +kernel)) ggL_law_X4_openOf
set_option maxRecDepth 20000 in
theorem ggL_law_L_setFor : GoodIn wsL_law wsL_setFor := goodIn_ca (goodIn_ca (goodIn_r _ [504, 87, 88, 505, 506, 507, 2, 508, 101, 102, 106, 107, 24, 207, 98, 99, 100, 208, 209, 210, 211, 16, 97, 25, 212, 213, 214, 23, 215, 216, 58, 167, 168, 169, 15, 170, 30, 163, 164, 165, 166, 31, 35, 36, 38, 40, 176, 177, 178, 179, 33, 180, 181, 182, 183, 34, 217, 218, 219, 220, 56, 57, 221, 222, 223, 224, 225, 226, 227, 228, 229, 230, 231, 232, 233, 234, 235, 236, 237, 238, 239, 240, 635, 636, 637, 638, 684, 685, 686, 687, 663, 664, 665, 666, 667, 668, 669, 670, 671, 672, 673, 674] (by rfl) (by rfl)) (goodIn_sub (fun _ h => List.mem_append_left _ (List.mem_append_right _ h)) (by rfl))) (goodIn_sub (fun _ h => List.mem_append_right _ h) (by rfl))
set_option maxRecDepth 20000 in
theorem gL_law_L_setFor : GoodIn wsL_law (va_wsS RL 145 yL_setFor wsL_setFor) := goodIn_app (goodIn_of _ (by decide +kernel)) ggL_law_L_setFor
set_option maxRecDepth 20000 in
theorem ggL_law_X4_setFor : GoodIn wsL_law wsX4_setFor := goodIn_r _ [512, 82, 127, 128, 5, 129, 124, 125, 126, 130, 131, 132, 133, 134, 279, 280, 281, 282, 122, 283, 284, 285, 286, 63, 287, 288, 289, 290, 254, 255, 256, 257, 64, 69, 70, 72, 74, 262, 263, 264, 265, 266, 267, 268, 269, 123, 66, 68, 67, 270, 639, 640, 641, 642, 643, 644, 645, 646, 647, 648, 649, 650, 651, 652, 653, 654, 655, 656, 657, 658, 659, 660, 661, 662] (by rfl) (by rfl)
set_option maxRecDepth 20000 in
theorem gL_law_X4_setFor : GoodIn wsL_law (wsV RL 147 RX4 yX4_setFor wsX4_setFor) := goodIn_app (goodIn_of _ (by decide +kernel)) ggL_law_X4_setFor
set_option maxRecDepth 20000 in
theorem ggL_law_X3_receipts : GoodIn wsL_law wsX3_receipts := goodIn_r _ [516, 20, 146, 635, 636, 637, 638, 675, 676, 677, 678, 679, 680, 681, 682, 683] (by rfl) (by rfl)
set_option maxRecDepth 20000 in
theorem gL_law_X3_receipts : GoodIn wsL_law (wsV RL 148 RX3 yX3_receipts wsX3_receipts) := goodIn_app (goodIn_of _ (by decide +kernel)) ggL_law_X3_receipts
set_option maxRecDepth 20000 in
theorem ggL_law_X4_receipts : GoodIn wsL_law wsX4_receipts := goodIn_r _ [520, 249, 413, 414, 415, 5, 416, 134, 639, 640, 641, 642, 643, 644, 645, 646, 647, 648, 649, 650, 651, 652, 653, 654, 655, 656, 657, 658, 659, 660, 661, 662] (by rfl) (by rfl)
set_option maxRecDepth 20000 in
theorem gL_law_X4_receipts : GoodIn wsL_law (wsV RL 151 RX4 yX4_receipts wsX4_receipts) := goodIn_app (goodIn_of _ (by decide +kernel)) ggL_law_X4_receipts
set_option maxRecDepth 20000 in
theorem ggL_law_L_customerOf : GoodIn wsL_law wsL_customerOf := goodIn_ca (goodIn_r _ [523, 87, 524, 525, 526, 2, 527, 20, 156, 298, 299, 300, 301, 101, 102, 146, 635, 636, 637, 638, 675, 676, 677, 678, 679, 680, 681, 682, 683] (by rfl) (by rfl)) (goodIn_sub (fun _ h => List.mem_append_left _ (List.mem_append_right _ h)) (by rfl))
set_option maxRecDepth 20000 in
theorem gL_law_L_customerOf : GoodIn wsL_law (va_wsS RL 152 yL_customerOf wsL_customerOf) := goodIn_app (goodIn_of _ (by decide +kernel)) ggL_law_L_customerOf
set_option maxRecDepth 20000 in
theorem ggL_law_X4_customerOf : GoodIn wsL_law wsX4_customerOf := goodIn_r _ [531, 76, 532, 533, 534, 5, 535, 311, 312, 313, 314, 249, 124, 125, 126, 130, 131, 132, 133, 134, 639, 640, 641, 642, 643, 644, 645, 646, 647, 648, 649, 650, 651, 652, 653, 654, 655, 656, 657, 658, 659, 660, 661, 662] (by rfl) (by rfl)
set_option maxRecDepth 20000 in
theorem gL_law_X4_customerOf : GoodIn wsL_law (wsV RL 154 RX4 yX4_customerOf wsX4_customerOf) := goodIn_app (goodIn_of _ (by decide +kernel)) ggL_law_X4_customerOf
set_option maxRecDepth 20000 in
theorem ggL_law_L_appliedTo : GoodIn wsL_law wsL_appliedTo := goodIn_ca (goodIn_r _ [538, 87, 539, 540, 541, 2, 542, 20, 298, 299, 300, 301, 101, 102, 146, 385, 386, 387, 388, 16, 97, 353, 354, 355, 19, 356, 51, 192, 193, 194, 635, 636, 637, 638, 675, 676, 677, 678, 679, 680, 681, 682, 683, 663, 664, 665, 666, 667, 668, 669, 670, 671, 672, 673, 674] (by rfl) (by rfl)) (goodIn_sub (fun _ h => List.mem_append_left _ (List.mem_append_right _ h)) (by rfl))
set_option maxRecDepth 20000 in
theorem gL_law_L_appliedTo : GoodIn wsL_law (va_wsS RL 155 yL_appliedTo wsL_appliedTo) := goodIn_app (goodIn_of _ (by decide +kernel)) ggL_law_L_appliedTo
set_option maxRecDepth 20000 in
theorem ggL_law_X4_appliedTo : GoodIn wsL_law wsX4_appliedTo := goodIn_r _ [546, 80, 311, 312, 313, 5, 314, 249, 124, 125, 126, 287, 288, 289, 290, 122, 130, 131, 132, 133, 134, 639, 640, 641, 642, 643, 644, 645, 646, 647, 648, 649, 650, 651, 652, 653, 654, 655, 656, 657, 658, 659, 660, 661, 662] (by rfl) (by rfl)
set_option maxRecDepth 20000 in
theorem gL_law_X4_appliedTo : GoodIn wsL_law (wsV RL 157 RX4 yX4_appliedTo wsX4_appliedTo) := goodIn_app (goodIn_of _ (by decide +kernel)) ggL_law_X4_appliedTo
set_option maxRecDepth 20000 in
theorem ggL_law_L_unapplied : GoodIn wsL_law wsL_unapplied := goodIn_ca (goodIn_r _ [549, 87, 550, 551, 552, 2, 553, 20, 157, 298, 299, 300, 301, 101, 102, 146, 635, 636, 637, 638, 675, 676, 677, 678, 679, 680, 681, 682, 683] (by rfl) (by rfl)) (goodIn_sub (fun _ h => List.mem_append_left _ (List.mem_append_right _ h)) (by rfl))
set_option maxRecDepth 20000 in
theorem gL_law_L_unapplied : GoodIn wsL_law (va_wsS RL 158 yL_unapplied wsL_unapplied) := goodIn_app (goodIn_of _ (by decide +kernel)) ggL_law_L_unapplied
set_option maxRecDepth 20000 in
theorem ggL_law_X4_unapplied : GoodIn wsL_law wsX4_unapplied := goodIn_r _ [557, 77, 532, 533, 534, 5, 535, 311, 312, 313, 314, 249, 124, 125, 126, 130, 131, 132, 133, 134, 639, 640, 641, 642, 643, 644, 645, 646, 647, 648, 649, 650, 651, 652, 653, 654, 655, 656, 657, 658, 659, 660, 661, 662] (by rfl) (by rfl)
set_option maxRecDepth 20000 in
theorem gL_law_X4_unapplied : GoodIn wsL_law (wsV RL 160 RX4 yX4_unapplied wsX4_unapplied) := goodIn_app (goodIn_of _ (by decide +kernel)) ggL_law_X4_unapplied
set_option maxRecDepth 20000 in
theorem ggL_law_L_hasBounced : GoodIn wsL_law wsL_hasBounced := goodIn_ca (goodIn_r _ [560, 87, 561, 562, 563, 2, 564, 20, 306, 298, 299, 300, 301, 101, 102, 146, 635, 636, 637, 638, 675, 676, 677, 678, 679, 680, 681, 682, 683] (by rfl) (by rfl)) (goodIn_sub (fun _ h => List.mem_append_left _ (List.mem_append_right _ h)) (by rfl))
set_option maxRecDepth 20000 in
theorem gL_law_L_hasBounced : GoodIn wsL_law (va_wsS RL 161 yL_hasBounced wsL_hasBounced) := goodIn_app (goodIn_of _ (by decide +kernel)) ggL_law_L_hasBounced
set_option maxRecDepth 20000 in
theorem ggL_law_X4_hasBounced : GoodIn wsL_law wsX4_hasBounced := goodIn_r _ [568, 79, 532, 533, 534, 5, 535, 311, 312, 313, 314, 249, 124, 125, 126, 130, 131, 132, 133, 134, 639, 640, 641, 642, 643, 644, 645, 646, 647, 648, 649, 650, 651, 652, 653, 654, 655, 656, 657, 658, 659, 660, 661, 662] (by rfl) (by rfl)
set_option maxRecDepth 20000 in
theorem gL_law_X4_hasBounced : GoodIn wsL_law (wsV RL 163 RX4 yX4_hasBounced wsX4_hasBounced) := goodIn_app (goodIn_of _ (by decide +kernel)) ggL_law_X4_hasBounced
set_option maxRecDepth 20000 in
theorem ggL_law_X3_day : GoodIn wsL_law wsX3_day := goodIn_r _ [572, 25, 635, 636, 637, 638] (by rfl) (by rfl)
set_option maxRecDepth 20000 in
theorem gL_law_X3_day : GoodIn wsL_law (wsV RL 164 RX3 yX3_day wsX3_day) := goodIn_app (goodIn_of _ (by decide +kernel)) ggL_law_X3_day
set_option maxRecDepth 20000 in
theorem ggL_law_X4_day : GoodIn wsL_law wsX4_day := goodIn_r _ [576, 123, 413, 414, 415, 5, 416, 134, 639, 640, 641, 642, 643, 644, 645, 646, 647, 648, 649, 650, 651, 652, 653, 654, 655, 656, 657, 658, 659, 660, 661, 662] (by rfl) (by rfl)
set_option maxRecDepth 20000 in
theorem gL_law_X4_day : GoodIn wsL_law (wsV RL 167 RX4 yX4_day wsX4_day) := goodIn_app (goodIn_of _ (by decide +kernel)) ggL_law_X4_day
set_option maxRecDepth 20000 in
theorem ggL_law_X3_received : GoodIn wsL_law wsX3_received := goodIn_r _ [580, 20, 581, 582, 583, 584, 19, 585, 151, 635, 636, 637, 638, 675, 676, 677, 678, 679, 680, 681, 682, 683] (by rfl) (by rfl)
set_option maxRecDepth 20000 in
theorem gL_law_X3_received : GoodIn wsL_law (wsV RL 168 RX3 yX3_received wsX3_received) := goodIn_app (goodIn_of _ (by decide +kernel)) ggL_law_X3_received
set_option maxRecDepth 20000 in
theorem ggL_law_X4_received : GoodIn wsL_law wsX4_received := goodIn_r _ [589, 75, 590, 591, 592, 5, 593, 249, 413, 414, 415, 416, 134, 639, 640, 641, 642, 643, 644, 645, 646, 647, 648, 649, 650, 651, 652, 653, 654, 655, 656, 657, 658, 659, 660, 661, 662] (by rfl) (by rfl)
set_option maxRecDepth 20000 in
theorem gL_law_X4_received : GoodIn wsL_law (wsV RL 171 RX4 yX4_received wsX4_received) := goodIn_app (goodIn_of _ (by decide +kernel)) ggL_law_X4_received
set_option maxRecDepth 20000 in
theorem ggL_law_X3_applied : GoodIn wsL_law wsX3_applied := goodIn_r _ [597, 20, 598, 582, 583, 584, 19, 585, 151, 635, 636, 637, 638, 675, 676, 677, 678, 679, 680, 681, 682, 683] (by rfl) (by rfl)
set_option maxRecDepth 20000 in
theorem gL_law_X3_applied : GoodIn wsL_law (wsV RL 172 RX3 yX3_applied wsX3_applied) := goodIn_app (goodIn_of _ (by decide +kernel)) ggL_law_X3_applied
set_option maxRecDepth 20000 in
theorem ggL_law_X4_applied : GoodIn wsL_law wsX4_applied := goodIn_r _ [602, 75, 77, 78, 590, 591, 592, 5, 593, 249, 603, 604, 605, 606, 79, 413, 414, 415, 416, 134, 639, 640, 641, 642, 643, 644, 645, 646, 647, 648, 649, 650, 651, 652, 653, 654, 655, 656, 657, 658, 659, 660, 661, 662] (by rfl) (by rfl)
set_option maxRecDepth 20000 in
theorem gL_law_X4_applied : GoodIn wsL_law (wsV RL 175 RX4 yX4_applied wsX4_applied) := goodIn_app (goodIn_of _ (by decide +kernel)) ggL_law_X4_applied
set_option maxRecDepth 20000 in
theorem ggL_law_X3_allUnapplied : GoodIn wsL_law wsX3_allUnapplied := goodIn_r _ [610, 20, 157, 582, 583, 584, 19, 585, 151, 635, 636, 637, 638, 675, 676, 677, 678, 679, 680, 681, 682, 683] (by rfl) (by rfl)
set_option maxRecDepth 20000 in
theorem gL_law_X3_allUnapplied : GoodIn wsL_law (wsV RL 176 RX3 yX3_allUnapplied wsX3_allUnapplied) := goodIn_app (goodIn_of _ (by decide +kernel)) ggL_law_X3_allUnapplied
set_option maxRecDepth 20000 in
theorem ggL_law_X4_allUnapplied : GoodIn wsL_law wsX4_allUnapplied := goodIn_r _ [614, 77, 590, 591, 592, 5, 593, 249, 413, 414, 415, 416, 134, 639, 640, 641, 642, 643, 644, 645, 646, 647, 648, 649, 650, 651, 652, 653, 654, 655, 656, 657, 658, 659, 660, 661, 662] (by rfl) (by rfl)
set_option maxRecDepth 20000 in
theorem gL_law_X4_allUnapplied : GoodIn wsL_law (wsV RL 179 RX4 yX4_allUnapplied wsX4_allUnapplied) := goodIn_app (goodIn_of _ (by decide +kernel)) ggL_law_X4_allUnapplied
set_option maxRecDepth 20000 in
theorem ggL_law_X3_paidBack : GoodIn wsL_law wsX3_paidBack := goodIn_r _ [618, 20, 348, 582, 583, 584, 19, 585, 151, 635, 636, 637, 638, 675, 676, 677, 678, 679, 680, 681, 682, 683] (by rfl) (by rfl)
set_option maxRecDepth 20000 in
theorem gL_law_X3_paidBack : GoodIn wsL_law (wsV RL 180 RX3 yX3_paidBack wsX3_paidBack) := goodIn_app (goodIn_of _ (by decide +kernel)) ggL_law_X3_paidBack
set_option maxRecDepth 20000 in
theorem ggL_law_X4_paidBack : GoodIn wsL_law wsX4_paidBack := goodIn_r _ [622, 78, 590, 591, 592, 5, 593, 249, 413, 414, 415, 416, 134, 639, 640, 641, 642, 643, 644, 645, 646, 647, 648, 649, 650, 651, 652, 653, 654, 655, 656, 657, 658, 659, 660, 661, 662] (by rfl) (by rfl)
set_option maxRecDepth 20000 in
theorem gL_law_X4_paidBack : GoodIn wsL_law (wsV RL 183 RX4 yX4_paidBack wsX4_paidBack) := goodIn_app (goodIn_of _ (by decide +kernel)) ggL_law_X4_paidBack
set_option maxRecDepth 20000 in
theorem ggL_law_X3_bounced : GoodIn wsL_law wsX3_bounced := goodIn_r _ [626, 20, 627, 628, 629, 19, 630, 151, 50, 45, 635, 636, 637, 638, 675, 676, 677, 678, 679, 680, 681, 682, 683] (by rfl) (by rfl)
set_option maxRecDepth 20000 in
theorem gL_law_X3_bounced : GoodIn wsL_law (wsV RL 184 RX3 yX3_bounced wsX3_bounced) := goodIn_app (goodIn_of _ (by decide +kernel)) ggL_law_X3_bounced
set_option maxRecDepth 20000 in
theorem ggL_law_X4_bounced : GoodIn wsL_law wsX4_bounced := goodIn_r _ [634, 603, 604, 605, 5, 606, 249, 79, 75, 413, 414, 415, 416, 134, 639, 640, 641, 642, 643, 644, 645, 646, 647, 648, 649, 650, 651, 652, 653, 654, 655, 656, 657, 658, 659, 660, 661, 662] (by rfl) (by rfl)
set_option maxRecDepth 20000 in
theorem gL_law_X4_bounced : GoodIn wsL_law (wsV RL 187 RX4 yX4_bounced wsX4_bounced) := goodIn_app (goodIn_of _ (by decide +kernel)) ggL_law_X4_bounced
end
